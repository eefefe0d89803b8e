/-! THE WORLD: 63 cells by their numbers; 0 the system, 54 the reference. Memory: a row of ints for each number. -/
abbrev pw_Mem : Type := Nat → Nat → Int32
abbrev pw_G : Type := va_G × (ClassId × ClassId × ClassId) × (Nat → Nat) × (Nat → Prop) × (Nat → Nat)
abbrev gD (G : pw_G) : va_G := G.1
abbrev gI (G : pw_G) : ClassId := G.2.1.1
abbrev gRd (G : pw_G) : ClassId := G.2.1.2.1
abbrev gRw (G : pw_G) : ClassId := G.2.1.2.2
abbrev gad (G : pw_G) : Nat → Nat := G.2.2.1
abbrev gA (G : pw_G) : Nat → Prop := G.2.2.2.1
abbrev gS (G : pw_G) : Nat → Nat := G.2.2.2.2
def pw_road (G : pw_G) (o : Nat) (r : Nat → Int32) : va_E := .inr (2, [.int (r 0), .int (r 1), .int (r 2), .int (r 3), .int (r 4), .int (r 5), .ref (gad G (o + 1)), .ref (gad G (o + 2)), .ref (gad G (o + 3)), .ref (gad G (o + 4)), .ref (gad G (o + 5)), .ref (gad G (o + 6))])
def pw_row (G : pw_G) (o : Nat) (r : Nat → Int32) : va_E := .inr (3, [.ref (gad G (o + 1)), .int (r 1), .int (r 2), .int (r 3)])
def pw_arr (G : pw_G) (n : Nat) (r : Nat → Int32) : va_E := .inl (gI G, n, .inl r)
def pw_rows (G : pw_G) : va_E := .inl (gRw G, 8, .inr (.inr (.inr (.inr (fun j => some (gad G (24 + 2 * j)))))))
def pw_imgs (G : pw_G) : va_E := .inl (gRd G, 2, .inr (.inr (.inr (.inr (fun j => some (gad G (40 + 7 * j)))))))
def pw_sysm (G : pw_G) (r : Nat → Int32) : va_E := .inr (5, [.ref (gad G 1), .ref (gad G 2), .ref (gad G 4), .ref (gad G 11), .ref (gad G 18), .ref (gad G 19), .ref (gad G 20), .ref (gad G 22), .int (r 8), .int (r 9)])
def pw_tape (G : pw_G) (r : Nat → Int32) : va_E := .inr (4, [.ref (gad G 3), .int (r 1), .int (r 2), .int (r 3)])
def pw_acts (G : pw_G) (r : Nat → Int32) : va_E := .inr (0, [.ref (gad G 21), .int (r 1), .int (r 2)])
def pw_bods (G : pw_G) (r : Nat → Int32) : va_E := .inr (1, [.ref (gad G 23), .int (r 1)])
def pw_modl (G : pw_G) (r : Nat → Int32) : va_E := .inr (6, [.ref (gad G 55), .int (r 1), .ref (gad G 56), .int (r 3), .int (r 4), .int (r 5), .ref (gad G 57), .ref (gad G 58), .ref (gad G 59), .ref (gad G 60), .int (r 10), .int (r 11), .int (r 12), .ref (gad G 61), .ref (gad G 62), .int (r 15)])
def pw_cell (G : pw_G) (k : Nat) (r : Nat → Int32) : va_E := match k with
  | 0 => pw_sysm G r
  | 1 => pw_rows G
  | 2 => pw_tape G r
  | 3 => pw_arr G 90 r
  | 4 => pw_road G 4 r
  | 5 => pw_arr G 9 r
  | 6 => pw_arr G 9 r
  | 7 => pw_arr G 5 r
  | 8 => pw_arr G 5 r
  | 9 => pw_arr G 5 r
  | 10 => pw_arr G 9 r
  | 11 => pw_road G 11 r
  | 12 => pw_arr G 9 r
  | 13 => pw_arr G 9 r
  | 14 => pw_arr G 5 r
  | 15 => pw_arr G 5 r
  | 16 => pw_arr G 5 r
  | 17 => pw_arr G 9 r
  | 18 => pw_arr G 72 r
  | 19 => pw_imgs G
  | 20 => pw_acts G r
  | 21 => pw_arr G 480 r
  | 22 => pw_bods G r
  | 23 => pw_arr G 16 r
  | 24 => pw_row G 24 r
  | 25 => pw_arr G 40 r
  | 26 => pw_row G 26 r
  | 27 => pw_arr G 40 r
  | 28 => pw_row G 28 r
  | 29 => pw_arr G 40 r
  | 30 => pw_row G 30 r
  | 31 => pw_arr G 40 r
  | 32 => pw_row G 32 r
  | 33 => pw_arr G 40 r
  | 34 => pw_row G 34 r
  | 35 => pw_arr G 40 r
  | 36 => pw_row G 36 r
  | 37 => pw_arr G 40 r
  | 38 => pw_row G 38 r
  | 39 => pw_arr G 40 r
  | 40 => pw_road G 40 r
  | 41 => pw_arr G 9 r
  | 42 => pw_arr G 9 r
  | 43 => pw_arr G 5 r
  | 44 => pw_arr G 5 r
  | 45 => pw_arr G 5 r
  | 46 => pw_arr G 9 r
  | 47 => pw_road G 47 r
  | 48 => pw_arr G 9 r
  | 49 => pw_arr G 9 r
  | 50 => pw_arr G 5 r
  | 51 => pw_arr G 5 r
  | 52 => pw_arr G 5 r
  | 53 => pw_arr G 9 r
  | 54 => pw_modl G r
  | 55 => pw_arr G 670 r
  | 56 => pw_arr G 90 r
  | 57 => pw_arr G 8 r
  | 58 => pw_arr G 8 r
  | 59 => pw_arr G 320 r
  | 60 => pw_arr G 40 r
  | 61 => pw_arr G 72 r
  | 62 => pw_arr G 16 r
  | _ => pw_arr G 0 r
def pw_wl (G : pw_G) (μ : pw_Mem) : va_W := (List.range 63).map (fun k => (gad G k, pw_cell G k (μ k)))
def pw_st (μ : pw_Mem) (o j : Nat) (x : Int32) : pw_Mem := va_up μ o (upd (μ o) j x)
theorem pw_wl_get {G : pw_G} {μ : pw_Mem} {k : Nat} (h : k < 63) : (pw_wl G μ)[k]? = some (gad G k, pw_cell G k (μ k)) := by
  simp [pw_wl, h]
theorem pw_wl_set {G : pw_G} {μ : pw_Mem} {k : Nat} (r : Nat → Int32) (h : k < 63) : (pw_wl G μ).set k (gad G k, pw_cell G k r) = pw_wl G (va_up μ k r) := by
  apply List.ext_getElem?
  intro i
  rw [List.getElem?_set]
  by_cases hi : k = i
  · subst hi
    have h2 : k < (pw_wl G μ).length := by simpa [pw_wl] using h
    rw [if_pos rfl, if_pos h2, pw_wl_get h, va_up_self]
  · rw [if_neg hi]
    by_cases h3 : i < 63
    · rw [pw_wl_get h3, pw_wl_get h3, va_up_ne _ _ (fun e => hi e.symm)]
    · simp [pw_wl, h3]
/-- the kinds of things of which there are several -/
def pw_KD (o : Nat) : Prop := o = 4 ∨ o = 11 ∨ o = 40 ∨ o = 47
def pw_KR (o : Nat) : Prop := o = 24 ∨ o = 26 ∨ o = 28 ∨ o = 30 ∨ o = 32 ∨ o = 34 ∨ o = 36 ∨ o = 38
theorem pw_ltD {o : Nat} (h : pw_KD o) : o < 63 := by unfold pw_KD at h; omega
theorem pw_ltR {o : Nat} (h : pw_KR o) : o < 63 := by unfold pw_KR at h; omega
theorem pw_ltD6 {o : Nat} (h : pw_KD o) (k : Nat) (hk : k ≤ 6) : o + k < 63 := by unfold pw_KD at h; omega
theorem pw_ltR1 {o : Nat} (h : pw_KR o) : o + 1 < 63 := by unfold pw_KR at h; omega
theorem pw_shD {G : pw_G} {o : Nat} (h : pw_KD o) (r : Nat → Int32) : pw_cell G o r = pw_road G o r := by
  rcases h with rfl | rfl | rfl | rfl <;> rfl
theorem pw_shR {G : pw_G} {o : Nat} (h : pw_KR o) (r : Nat → Int32) : pw_cell G o r = pw_row G o r := by
  rcases h with rfl | rfl | rfl | rfl | rfl | rfl | rfl | rfl <;> rfl
theorem pw_shR1 {G : pw_G} {o : Nat} (h : pw_KR o) (r : Nat → Int32) : pw_cell G (o + 1) r = pw_arr G 40 r := by
  rcases h with rfl | rfl | rfl | rfl | rfl | rfl | rfl | rfl <;> rfl
theorem pw_shD1 {G : pw_G} {o : Nat} (h : pw_KD o) (r : Nat → Int32) : pw_cell G (o + 1) r = pw_arr G 9 r := by
  rcases h with rfl | rfl | rfl | rfl <;> rfl
theorem pw_shD2 {G : pw_G} {o : Nat} (h : pw_KD o) (r : Nat → Int32) : pw_cell G (o + 2) r = pw_arr G 9 r := by
  rcases h with rfl | rfl | rfl | rfl <;> rfl
theorem pw_shD3 {G : pw_G} {o : Nat} (h : pw_KD o) (r : Nat → Int32) : pw_cell G (o + 3) r = pw_arr G 5 r := by
  rcases h with rfl | rfl | rfl | rfl <;> rfl
theorem pw_shD4 {G : pw_G} {o : Nat} (h : pw_KD o) (r : Nat → Int32) : pw_cell G (o + 4) r = pw_arr G 5 r := by
  rcases h with rfl | rfl | rfl | rfl <;> rfl
theorem pw_shD5 {G : pw_G} {o : Nat} (h : pw_KD o) (r : Nat → Int32) : pw_cell G (o + 5) r = pw_arr G 5 r := by
  rcases h with rfl | rfl | rfl | rfl <;> rfl
theorem pw_shD6 {G : pw_G} {o : Nat} (h : pw_KD o) (r : Nat → Int32) : pw_cell G (o + 6) r = pw_arr G 9 r := by
  rcases h with rfl | rfl | rfl | rfl <;> rfl
theorem pw_sh_0 {G : pw_G} (r : Nat → Int32) : pw_cell G 0 r = pw_sysm G r := rfl
theorem pw_sh_1 {G : pw_G} (r : Nat → Int32) : pw_cell G 1 r = pw_rows G := rfl
theorem pw_sh_2 {G : pw_G} (r : Nat → Int32) : pw_cell G 2 r = pw_tape G r := rfl
theorem pw_sh_3 {G : pw_G} (r : Nat → Int32) : pw_cell G 3 r = pw_arr G 90 r := rfl
theorem pw_sh_5 {G : pw_G} (r : Nat → Int32) : pw_cell G 5 r = pw_arr G 9 r := rfl
theorem pw_sh_6 {G : pw_G} (r : Nat → Int32) : pw_cell G 6 r = pw_arr G 9 r := rfl
theorem pw_sh_7 {G : pw_G} (r : Nat → Int32) : pw_cell G 7 r = pw_arr G 5 r := rfl
theorem pw_sh_8 {G : pw_G} (r : Nat → Int32) : pw_cell G 8 r = pw_arr G 5 r := rfl
theorem pw_sh_9 {G : pw_G} (r : Nat → Int32) : pw_cell G 9 r = pw_arr G 5 r := rfl
theorem pw_sh_10 {G : pw_G} (r : Nat → Int32) : pw_cell G 10 r = pw_arr G 9 r := rfl
theorem pw_sh_12 {G : pw_G} (r : Nat → Int32) : pw_cell G 12 r = pw_arr G 9 r := rfl
theorem pw_sh_13 {G : pw_G} (r : Nat → Int32) : pw_cell G 13 r = pw_arr G 9 r := rfl
theorem pw_sh_14 {G : pw_G} (r : Nat → Int32) : pw_cell G 14 r = pw_arr G 5 r := rfl
theorem pw_sh_15 {G : pw_G} (r : Nat → Int32) : pw_cell G 15 r = pw_arr G 5 r := rfl
theorem pw_sh_16 {G : pw_G} (r : Nat → Int32) : pw_cell G 16 r = pw_arr G 5 r := rfl
theorem pw_sh_17 {G : pw_G} (r : Nat → Int32) : pw_cell G 17 r = pw_arr G 9 r := rfl
theorem pw_sh_18 {G : pw_G} (r : Nat → Int32) : pw_cell G 18 r = pw_arr G 72 r := rfl
theorem pw_sh_19 {G : pw_G} (r : Nat → Int32) : pw_cell G 19 r = pw_imgs G := rfl
theorem pw_sh_20 {G : pw_G} (r : Nat → Int32) : pw_cell G 20 r = pw_acts G r := rfl
theorem pw_sh_21 {G : pw_G} (r : Nat → Int32) : pw_cell G 21 r = pw_arr G 480 r := rfl
theorem pw_sh_22 {G : pw_G} (r : Nat → Int32) : pw_cell G 22 r = pw_bods G r := rfl
theorem pw_sh_23 {G : pw_G} (r : Nat → Int32) : pw_cell G 23 r = pw_arr G 16 r := rfl
theorem pw_sh_25 {G : pw_G} (r : Nat → Int32) : pw_cell G 25 r = pw_arr G 40 r := rfl
theorem pw_sh_27 {G : pw_G} (r : Nat → Int32) : pw_cell G 27 r = pw_arr G 40 r := rfl
theorem pw_sh_29 {G : pw_G} (r : Nat → Int32) : pw_cell G 29 r = pw_arr G 40 r := rfl
theorem pw_sh_31 {G : pw_G} (r : Nat → Int32) : pw_cell G 31 r = pw_arr G 40 r := rfl
theorem pw_sh_33 {G : pw_G} (r : Nat → Int32) : pw_cell G 33 r = pw_arr G 40 r := rfl
theorem pw_sh_35 {G : pw_G} (r : Nat → Int32) : pw_cell G 35 r = pw_arr G 40 r := rfl
theorem pw_sh_37 {G : pw_G} (r : Nat → Int32) : pw_cell G 37 r = pw_arr G 40 r := rfl
theorem pw_sh_39 {G : pw_G} (r : Nat → Int32) : pw_cell G 39 r = pw_arr G 40 r := rfl
theorem pw_sh_41 {G : pw_G} (r : Nat → Int32) : pw_cell G 41 r = pw_arr G 9 r := rfl
theorem pw_sh_42 {G : pw_G} (r : Nat → Int32) : pw_cell G 42 r = pw_arr G 9 r := rfl
theorem pw_sh_43 {G : pw_G} (r : Nat → Int32) : pw_cell G 43 r = pw_arr G 5 r := rfl
theorem pw_sh_44 {G : pw_G} (r : Nat → Int32) : pw_cell G 44 r = pw_arr G 5 r := rfl
theorem pw_sh_45 {G : pw_G} (r : Nat → Int32) : pw_cell G 45 r = pw_arr G 5 r := rfl
theorem pw_sh_46 {G : pw_G} (r : Nat → Int32) : pw_cell G 46 r = pw_arr G 9 r := rfl
theorem pw_sh_48 {G : pw_G} (r : Nat → Int32) : pw_cell G 48 r = pw_arr G 9 r := rfl
theorem pw_sh_49 {G : pw_G} (r : Nat → Int32) : pw_cell G 49 r = pw_arr G 9 r := rfl
theorem pw_sh_50 {G : pw_G} (r : Nat → Int32) : pw_cell G 50 r = pw_arr G 5 r := rfl
theorem pw_sh_51 {G : pw_G} (r : Nat → Int32) : pw_cell G 51 r = pw_arr G 5 r := rfl
theorem pw_sh_52 {G : pw_G} (r : Nat → Int32) : pw_cell G 52 r = pw_arr G 5 r := rfl
theorem pw_sh_53 {G : pw_G} (r : Nat → Int32) : pw_cell G 53 r = pw_arr G 9 r := rfl
theorem pw_sh_54 {G : pw_G} (r : Nat → Int32) : pw_cell G 54 r = pw_modl G r := rfl
theorem pw_sh_55 {G : pw_G} (r : Nat → Int32) : pw_cell G 55 r = pw_arr G 670 r := rfl
theorem pw_sh_56 {G : pw_G} (r : Nat → Int32) : pw_cell G 56 r = pw_arr G 90 r := rfl
theorem pw_sh_57 {G : pw_G} (r : Nat → Int32) : pw_cell G 57 r = pw_arr G 8 r := rfl
theorem pw_sh_58 {G : pw_G} (r : Nat → Int32) : pw_cell G 58 r = pw_arr G 8 r := rfl
theorem pw_sh_59 {G : pw_G} (r : Nat → Int32) : pw_cell G 59 r = pw_arr G 320 r := rfl
theorem pw_sh_60 {G : pw_G} (r : Nat → Int32) : pw_cell G 60 r = pw_arr G 40 r := rfl
theorem pw_sh_61 {G : pw_G} (r : Nat → Int32) : pw_cell G 61 r = pw_arr G 72 r := rfl
theorem pw_sh_62 {G : pw_G} (r : Nat → Int32) : pw_cell G 62 r = pw_arr G 16 r := rfl
theorem pw_KR_of {i : Int32} (h : vp_in i 8) : pw_KR (24 + 2 * i.toNatClampNeg) := by
  have : i.toNatClampNeg < 8 := Nat.not_le.mp fun q => h (Or.inr q)
  unfold pw_KR; omega
theorem pw_KD_of {i : Int32} (h : vp_in i 2) : pw_KD (40 + 7 * i.toNatClampNeg) := by
  have : i.toNatClampNeg < 2 := Nat.not_le.mp fun q => h (Or.inr q)
  unfold pw_KD; omega
def pw_Ok (G : pw_G) : Prop := (∀ i j, i < 63 → j < 63 → gad G i = gad G j → i = j) ∧ ∀ k, k < 63 → gA G (gad G k)
theorem pw_D {G : pw_G} (h : pw_Ok G) (μ : pw_Mem) : va_D (gA G) (pw_wl G μ) := by
  have key : ∀ (k : Nat) (q : Nat × va_E), (pw_wl G μ)[k]? = some q → k < 63 ∧ q.1 = gad G k := by
    intro k q hk
    by_cases h3 : k < 63
    · rw [pw_wl_get h3] at hk; cases hk; exact ⟨h3, rfl⟩
    · simp [pw_wl, h3] at hk
  refine ⟨fun i j p q hi hj e => ?_, fun k q hk => ?_⟩
  · obtain ⟨a1, a2⟩ := key i p hi
    obtain ⟨b1, b2⟩ := key j q hj
    exact h.1 i j a1 b1 (by rw [← a2, ← b2, e])
  · obtain ⟨a1, a2⟩ := key k q hk
    rw [a2]; exact h.2 k a1
/-- the links between nest mates -/
def pw_nf : List (String × Nat × String × String × String × String) := [("PulpitRoads", 98, "PulpitRoads$Tape", "length", "I", "PulpitRoads"), ("PulpitRoads", 115, "PulpitRoads$Tape", "place", "I", "PulpitRoads"), ("PulpitRoads", 108, "PulpitRoads$Tape", "faultNumber", "I", "PulpitRoads"), ("PulpitRoads", 128, "PulpitRoads$Road", "stands", "Z", "PulpitRoads"), ("PulpitRoads$Tape", 48, "PulpitRoads$Road", "words", "I", "PulpitRoads"), ("PulpitRoads", 267, "PulpitRoads$Road", "words", "I", "PulpitRoads"), ("PulpitRoads$Tape", 51, "PulpitRoads$Road", "hard", "I", "PulpitRoads"), ("PulpitRoads", 270, "PulpitRoads$Road", "hard", "I", "PulpitRoads"), ("PulpitRoads$Acts", 19, "PulpitRoads$Road", "hour", "I", "PulpitRoads"), ("PulpitRoads", 132, "PulpitRoads$Road", "hour", "I", "PulpitRoads"), ("PulpitRoads$Tape", 61, "PulpitRoads$Road", "stretches", "I", "PulpitRoads"), ("PulpitRoads", 193, "PulpitRoads$Road", "stretches", "I", "PulpitRoads"), ("PulpitRoads$Tape", 77, "PulpitRoads$Road", "pulpits", "I", "PulpitRoads"), ("PulpitRoads", 125, "PulpitRoads$Road", "pulpits", "I", "PulpitRoads"), ("PulpitRoads$Tape", 58, "PulpitRoads$Road", "grade", "[I", "PulpitRoads"), ("PulpitRoads", 177, "PulpitRoads$Road", "grade", "[I", "PulpitRoads"), ("PulpitRoads$Acts", 24, "PulpitRoads$Road", "heardAt", "[I", "PulpitRoads"), ("PulpitRoads", 160, "PulpitRoads$Road", "heardAt", "[I", "PulpitRoads"), ("PulpitRoads$Bodies", 15, "PulpitRoads$Road", "kindOf", "[I", "PulpitRoads"), ("PulpitRoads$Tape", 74, "PulpitRoads$Road", "kindOf", "[I", "PulpitRoads"), ("PulpitRoads", 249, "PulpitRoads$Road", "kindOf", "[I", "PulpitRoads"), ("PulpitRoads$Acts", 27, "PulpitRoads$Road", "at", "[I", "PulpitRoads"), ("PulpitRoads$Bodies", 48, "PulpitRoads$Road", "at", "[I", "PulpitRoads"), ("PulpitRoads$Tape", 80, "PulpitRoads$Road", "at", "[I", "PulpitRoads"), ("PulpitRoads", 151, "PulpitRoads$Road", "at", "[I", "PulpitRoads"), ("PulpitRoads$Acts", 30, "PulpitRoads$Road", "word", "[I", "PulpitRoads"), ("PulpitRoads$Bodies", 41, "PulpitRoads$Road", "word", "[I", "PulpitRoads"), ("PulpitRoads$Tape", 83, "PulpitRoads$Road", "word", "[I", "PulpitRoads"), ("PulpitRoads", 157, "PulpitRoads$Road", "word", "[I", "PulpitRoads"), ("PulpitRoads", 277, "PulpitRoads$Road", "saidNow", "[I", "PulpitRoads"), ("PulpitRoads", 122, "PulpitRoads$Acts", "kept", "I", "PulpitRoads"), ("PulpitRoads", 261, "PulpitRoads$Bodies", "numbers", "[I", "PulpitRoads"), ("PulpitRoads", 255, "PulpitRoads$Bodies", "traced", "I", "PulpitRoads"), ("PulpitRoads", 79, "PulpitRoads$Row", "items", "[I", "PulpitRoads"), ("PulpitRoads", 71, "PulpitRoads$Row", "missing", "Z", "PulpitRoads"), ("PulpitRoads", 85, "PulpitRoads$Row", "lane", "I", "PulpitRoads"), ("PulpitRoads", 95, "PulpitRoads$Row", "length", "I", "PulpitRoads"), ("PulpitRoads$Road", 72, "PulpitRoads", "LETS", "[I", "PulpitRoads"), ("PulpitRoads$Bodies", 28, "PulpitRoads", "SIZE_BODIES", "[I", "PulpitRoads"), ("PulpitRoads$Bodies", 31, "PulpitRoads", "MARK_BODIES", "[I", "PulpitRoads"), ("PulpitRoads$Bodies", 34, "PulpitRoads", "KIND_ABOVE", "[I", "PulpitRoads")]
def pw_nm : List (String × Nat × MethodName × String) := [("PulpitRoads", 17, ⟨"PulpitRoads$Tape", "<init>", "()V"⟩, "PulpitRoads"), ("PulpitRoads", 24, ⟨"PulpitRoads$Road", "<init>", "()V"⟩, "PulpitRoads"), ("PulpitRoads", 42, ⟨"PulpitRoads$Acts", "<init>", "()V"⟩, "PulpitRoads"), ("PulpitRoads", 49, ⟨"PulpitRoads$Bodies", "<init>", "()V"⟩, "PulpitRoads"), ("PulpitRoads", 54, ⟨"PulpitRoads$Row", "<init>", "()V"⟩, "PulpitRoads"), ("PulpitRoads", 64, ⟨"PulpitRoads$Row", "begin", "(II)V"⟩, "PulpitRoads"), ("PulpitRoads", 75, ⟨"PulpitRoads$Row", "hasPlaces", "(II)Z"⟩, "PulpitRoads"), ("PulpitRoads", 82, ⟨"PulpitRoads$Row", "cut", "(I)I"⟩, "PulpitRoads"), ("PulpitRoads", 100, ⟨"PulpitRoads$Tape", "add", "(I)V"⟩, "PulpitRoads"), ("PulpitRoads", 104, ⟨"PulpitRoads$Tape", "readInto", "(LPulpitRoads$Road;)Z"⟩, "PulpitRoads"), ("PulpitRoads$Tape", 19, ⟨"PulpitRoads$Road", "begin", "()V"⟩, "PulpitRoads"), ("PulpitRoads", 118, ⟨"PulpitRoads$Road", "take", "(LPulpitRoads$Road;)V"⟩, "PulpitRoads"), ("PulpitRoads", 135, ⟨"PulpitRoads$Acts", "keep", "(LPulpitRoads$Road;)V"⟩, "PulpitRoads"), ("PulpitRoads", 138, ⟨"PulpitRoads$Road", "goHour", "()V"⟩, "PulpitRoads"), ("PulpitRoads", 141, ⟨"PulpitRoads$Road", "wholeGates", "()I"⟩, "PulpitRoads"), ("PulpitRoads", 168, ⟨"PulpitRoads$Acts", "giveBack", "(LPulpitRoads$Road;)V"⟩, "PulpitRoads"), ("PulpitRoads", 171, ⟨"PulpitRoads$Road", "councils", "()I"⟩, "PulpitRoads"), ("PulpitRoads", 174, ⟨"PulpitRoads$Road", "sayings", "(I)I"⟩, "PulpitRoads"), ("PulpitRoads", 180, ⟨"PulpitRoads$Road", "pulpitsOn", "(I)I"⟩, "PulpitRoads"), ("PulpitRoads", 209, ⟨"PulpitRoads$Road", "goHours", "(I)V"⟩, "PulpitRoads"), ("PulpitRoads", 200, ⟨"PulpitRoads$Road", "allWords", "()I"⟩, "PulpitRoads"), ("PulpitRoads", 203, ⟨"PulpitRoads$Road", "heardAtAny", "(I)I"⟩, "PulpitRoads"), ("PulpitRoads", 206, ⟨"PulpitRoads$Road", "hasPulpitsAs", "(LPulpitRoads$Road;)Z"⟩, "PulpitRoads"), ("PulpitRoads", 280, ⟨"PulpitRoads$Road", "nextOf", "(I)I"⟩, "PulpitRoads"), ("PulpitRoads", 246, ⟨"PulpitRoads$Road", "wordsHeard", "()I"⟩, "PulpitRoads"), ("PulpitRoads", 258, ⟨"PulpitRoads$Bodies", "begin", "(LPulpitRoads$Road;III)I"⟩, "PulpitRoads")]
def pw_Nw (U : State) : Prop := (∀ q ∈ pw_nf, va_Nw (.fieldLinkNest q.1 q.2.1 q.2.2.1 q.2.2.2.1 q.2.2.2.2.1 q.2.2.2.2.2) U) ∧ ∀ q ∈ pw_nm, va_Nw (.methodLinkNest q.1 q.2.1 q.2.2.1 q.2.2.2) U
def pw_tn : Nat → String := fun k => match k with | 0 => "LETS" | 1 => "KIND_ABOVE" | 2 => "SIZE_BODIES" | _ => "MARK_BODIES"
def pw_tl : Nat → Nat := fun k => match k with | 0 => 3 | _ => 6
def pw_tv : Nat → Nat → Int32 := fun k j => match k with
  | 0 => (match j with | 0 => 3 | 1 => 1 | _ => 4)
  | 1 => (match j with | 0 => 0 | 1 => 0 | 2 => 1 | 3 => 1 | 4 => 0 | _ => 4)
  | 2 => (match j with | 0 => 10 | 1 => 11 | 2 => 12 | 3 => 0 | 4 => 13 | _ => 14)
  | _ => (match j with | 0 => 20 | 1 => 21 | 2 => 24 | 3 => 22 | 4 => 23 | _ => 0)
abbrev pw_ty (G : pw_G) : List (ClassId × FieldType) := [(gI G, .int), (gRd G, .object "PulpitRoads$Road"), (gRw G, .object "PulpitRoads$Row")]
def pw_Wp (G : pw_G) (U : State) : Prop := va_K (gD G) vwCl (pw_ty G) U ∧ pw_Nw U ∧ ∀ k, k < 4 → va_Z "PulpitRoads" (pw_tn k) "[I" (.ref (gS G k)) (gA G) U U.heap ∧ va_T .int (gS G k) (pw_tl k) (fun j => .int (pw_tv k j)) (gA G) U U.heap
def pw_Pre (G : pw_G) (μ : pw_Mem) (U : State) : Prop := va_P (gD G) vwCl (pw_wl G μ) U.heap ∧ pw_Wp G U
abbrev pw_B (G : pw_G) (μ : pw_Mem) (t : State) : Prop := va_P (gD G) vwCl (pw_wl G μ) t.heap
theorem pw_Wp.step {G : pw_G} {s U : State} {H : Heap} {locs : List Loc} (h : pw_Wp G s) (hS : va_S (gA G) s.heap H locs) (hU : U.heap = H) (hW : s.WarmedH U.vm) : pw_Wp G U := by
  obtain ⟨h1, ⟨h2, h3⟩, h4⟩ := h
  refine ⟨va_K.moved hW.alike h1, ⟨fun q hq => (h2 q hq).warmF hW, fun q hq => (h3 q hq).warmM hW⟩, fun k hk => ?_⟩
  obtain ⟨a, b⟩ := h4 k hk
  rw [hU]
  exact ⟨(a.kept (H1 := H) (fun q hq hA => hS.2.1 q hq hA)).moved hW.alike, (b.kept (H1 := H) (fun q hq hA => hS.2.1 q hq hA)).moved hW.alike⟩
theorem pw_Pre.blind {G : pw_G} {μ : pw_Mem} {av : List Value} : FrameBlind (va_Pc av (pw_Pre G μ)) := by
  intro a U g mk h
  obtain ⟨h0, h1, h2, ⟨h3, h4⟩, h5⟩ := h
  refine ⟨h0, h1, va_K.moved (u := U) (U := U.calling g mk a) (Vm.Alike.refl U.vm) h2, ⟨fun q hq => (h3 q hq).same rfl rfl, fun q hq => (h4 q hq).same rfl rfl⟩, fun k hk => ?_⟩
  obtain ⟨a1, b1⟩ := h5 k hk
  exact ⟨a1.moved (Vm.Alike.refl U.vm), b1.moved (Vm.Alike.refl U.vm)⟩
/-- what stays in a method: the machine, its code, its words, the world's frame -/
def pw_F (p : Program) (s : State) (m : MethodId) (args : Array Value) (meth : Method) (c : Code) (cc : ByteArray) (n : Nat) (own : String) (ret : Option FieldType) (Ts : List Cond) (G : pw_G) : Prop :=
  p.tables.exec = Jvm.exec ∧ c.code = cc ∧ c.maxLocals = n ∧ s.vm.findClass own = some m.cls ∧ (∀ w ∈ Ts, w.before args s = true) ∧ meth.sig.returnType = ret ∧ meth.locks = false ∧ pw_Wp G s ∧ pw_Ok G
def pw_Go (p : Program) (l : Launch) (e : Env) (R : Room) (s : State) (m : MethodId) (args : Array Value) (below : List Frame) (meth : Method) (c : Code) (Q : State → Prop) (G : pw_G) (n : Nat) (pc : Nat) (lv : List (Nat × Value)) (st : List Value) (μ : pw_Mem) : Prop :=
  ∀ (H : Heap) (locs : List Loc) (ls : Array Slot), va_P (gD G) vwCl (pw_wl G μ) H → va_S (gA G) s.heap H locs → lv_has ls n lv → W p l e R s m args below meth c H locs 0 0 Q (F0 m pc ls st)

section PW
variable {p : Program} {l : Launch} {e : Env} {R : Room} {s : State} {m : MethodId} {args : Array Value} {below : List Frame} {meth : Method} {c : Code} {Q : State → Prop} {G : pw_G} {n : Nat} {cc : ByteArray} {own : String} {ret : Option FieldType} {Ts : List Cond}
variable {pc : Nat} {lv : List (Nat × Value)} {st rest : List Value} {μ : pw_Mem}
theorem pw_iconst (C : pw_F p s m args meth c cc n own ret Ts G) {k : Int} {v : Int32} (hd : decode cc pc = .ok (.iconst k, 1)) (hv : Int32.ofInt k = v) (kk : pw_Go p l e R s m args below meth c Q G n (pc + 1) lv (.int v :: rest) μ) : pw_Go p l e R s m args below meth c Q G n pc lv rest μ := fun H locs ls hP hS hl => lv_iconst C.1 C.2.1 hd hv (kk H locs ls hP hS hl)
theorem pw_bipush (C : pw_F p s m args meth c cc n own ret Ts G) {k : Int} {v : Int32} (hd : decode cc pc = .ok (.bipush k, 2)) (hv : (Int8.ofInt k).toInt32 = v) (kk : pw_Go p l e R s m args below meth c Q G n (pc + 2) lv (.int v :: rest) μ) : pw_Go p l e R s m args below meth c Q G n pc lv rest μ := fun H locs ls hP hS hl => lv_bipush C.1 C.2.1 hd hv (kk H locs ls hP hS hl)
theorem pw_sipush (C : pw_F p s m args meth c cc n own ret Ts G) {k : Int} {v : Int32} (hd : decode cc pc = .ok (.sipush k, 3)) (hv : (Int16.ofInt k).toInt32 = v) (kk : pw_Go p l e R s m args below meth c Q G n (pc + 3) lv (.int v :: rest) μ) : pw_Go p l e R s m args below meth c Q G n pc lv rest μ := fun H locs ls hP hS hl => lv_sipush C.1 C.2.1 hd hv (kk H locs ls hP hS hl)
theorem pw_ldc (C : pw_F p s m args meth c cc n own ret Ts G) {index : Nat} {v : Int32} (hk : (Jvm.Cond.constant own index v).before args s = true) (hd : decode cc pc = .ok (.ldc index, 2)) (kk : pw_Go p l e R s m args below meth c Q G n (pc + 2) lv (.int v :: rest) μ) : pw_Go p l e R s m args below meth c Q G n pc lv rest μ := fun H locs ls hP hS hl => lv_ldc C.1 C.2.1 C.2.2.2.1 hk hd (kk H locs ls hP hS hl)
theorem pw_lconst (C : pw_F p s m args meth c cc n own ret Ts G) {k : Fin 2} {v : Int64} (hd : decode cc pc = .ok (.lconst k, 1)) (hv : Int64.ofNat (k : Nat) = v) (kk : pw_Go p l e R s m args below meth c Q G n (pc + 1) lv (.long v :: rest) μ) : pw_Go p l e R s m args below meth c Q G n pc lv rest μ := fun H locs ls hP hS hl => lv_lconst C.1 C.2.1 hd hv (kk H locs ls hP hS hl)
theorem pw_iload_n (C : pw_F p s m args meth c cc n own ret Ts G) {k : Fin 4} {i : Nat} {x : Int32} (hd : decode cc pc = .ok (.iload_n k, 1)) (hi : (k : Nat) = i) (q : Nat) (hq : lv[q]? = some (i, .int x)) (kk : pw_Go p l e R s m args below meth c Q G n (pc + 1) lv (.int x :: rest) μ) : pw_Go p l e R s m args below meth c Q G n pc lv rest μ := fun H locs ls hP hS hl => lv_iload_n C.1 C.2.1 hd hi (lv_at hl q hq) (kk H locs ls hP hS hl)
theorem pw_iload (C : pw_F p s m args meth c cc n own ret Ts G) {i : Nat} {x : Int32} (hd : decode cc pc = .ok (.iload i, 2)) (q : Nat) (hq : lv[q]? = some (i, .int x)) (kk : pw_Go p l e R s m args below meth c Q G n (pc + 2) lv (.int x :: rest) μ) : pw_Go p l e R s m args below meth c Q G n pc lv rest μ := fun H locs ls hP hS hl => lv_iload C.1 C.2.1 hd (lv_at hl q hq) (kk H locs ls hP hS hl)
theorem pw_lload_n (C : pw_F p s m args meth c cc n own ret Ts G) {k : Fin 4} {i : Nat} {x : Int64} (hd : decode cc pc = .ok (.lload_n k, 1)) (hi : (k : Nat) = i) (q : Nat) (hq : lv[q]? = some (i, .long x)) (kk : pw_Go p l e R s m args below meth c Q G n (pc + 1) lv (.long x :: rest) μ) : pw_Go p l e R s m args below meth c Q G n pc lv rest μ := fun H locs ls hP hS hl => lv_lload_n C.1 C.2.1 hd hi (lv_at hl q hq) (kk H locs ls hP hS hl)
theorem pw_lload (C : pw_F p s m args meth c cc n own ret Ts G) {i : Nat} {x : Int64} (hd : decode cc pc = .ok (.lload i, 2)) (q : Nat) (hq : lv[q]? = some (i, .long x)) (kk : pw_Go p l e R s m args below meth c Q G n (pc + 2) lv (.long x :: rest) μ) : pw_Go p l e R s m args below meth c Q G n pc lv rest μ := fun H locs ls hP hS hl => lv_lload C.1 C.2.1 hd (lv_at hl q hq) (kk H locs ls hP hS hl)
theorem pw_aload_n (C : pw_F p s m args meth c cc n own ret Ts G) {k : Fin 4} {i a : Nat} (hd : decode cc pc = .ok (.aload_n k, 1)) (hi : (k : Nat) = i) (q : Nat) (hq : lv[q]? = some (i, .ref a)) (kk : pw_Go p l e R s m args below meth c Q G n (pc + 1) lv (.ref a :: rest) μ) : pw_Go p l e R s m args below meth c Q G n pc lv rest μ := fun H locs ls hP hS hl => lv_aload_n C.1 C.2.1 hd hi (lv_at hl q hq) (kk H locs ls hP hS hl)
theorem pw_aload (C : pw_F p s m args meth c cc n own ret Ts G) {i a : Nat} (hd : decode cc pc = .ok (.aload i, 2)) (q : Nat) (hq : lv[q]? = some (i, .ref a)) (kk : pw_Go p l e R s m args below meth c Q G n (pc + 2) lv (.ref a :: rest) μ) : pw_Go p l e R s m args below meth c Q G n pc lv rest μ := fun H locs ls hP hS hl => lv_aload C.1 C.2.1 hd (lv_at hl q hq) (kk H locs ls hP hS hl)
theorem pw_ldc2 (C : pw_F p s m args meth c cc n own ret Ts G) {index : Nat} {v : Int64} (hk : (Jvm.Cond.constantLong own index v).before args s = true) (hd : decode cc pc = .ok (.ldc2_w index, 3)) (kk : pw_Go p l e R s m args below meth c Q G n (pc + 3) lv (.long v :: rest) μ) : pw_Go p l e R s m args below meth c Q G n pc lv rest μ := fun H locs ls hP hS hl => lv_ldc2 C.1 C.2.1 C.2.2.2.1 hk hd (kk H locs ls hP hS hl)
theorem pw_ldcw (C : pw_F p s m args meth c cc n own ret Ts G) {index : Nat} {v : Int32} (hk : (Jvm.Cond.constant own index v).before args s = true) (hd : decode cc pc = .ok (.ldc_w index, 3)) (kk : pw_Go p l e R s m args below meth c Q G n (pc + 3) lv (.int v :: rest) μ) : pw_Go p l e R s m args below meth c Q G n pc lv rest μ := fun H locs ls hP hS hl => lv_ldcw C.1 C.2.1 C.2.2.2.1 hk hd (kk H locs ls hP hS hl)
theorem pw_istore_n (C : pw_F p s m args meth c cc n own ret Ts G) {k : Fin 4} {i : Nat} {x : Int32} {lv' : List (Nat × Value)} (hd : decode cc pc = .ok (.istore_n k, 1)) (hi : (k : Nat) = i) (hn : i < n) (hq : (i, Value.int x) :: lv.filter (fun q => !(q.1 == i) && !(q.1 + 1 == i && q.2.category == 2)) = lv') (kk : pw_Go p l e R s m args below meth c Q G n (pc + 1) lv' rest μ) : pw_Go p l e R s m args below meth c Q G n pc lv (.int x :: rest) μ := fun H locs ls hP hS hl => lv_istore_n C.1 C.2.1 hd hi hl hn hq (fun ls' hl' => kk H locs ls' hP hS hl')
theorem pw_istore (C : pw_F p s m args meth c cc n own ret Ts G) {i : Nat} {x : Int32} {lv' : List (Nat × Value)} (hd : decode cc pc = .ok (.istore i, 2)) (hn : i < n) (hq : (i, Value.int x) :: lv.filter (fun q => !(q.1 == i) && !(q.1 + 1 == i && q.2.category == 2)) = lv') (kk : pw_Go p l e R s m args below meth c Q G n (pc + 2) lv' rest μ) : pw_Go p l e R s m args below meth c Q G n pc lv (.int x :: rest) μ := fun H locs ls hP hS hl => lv_istore C.1 C.2.1 hd hl hn hq (fun ls' hl' => kk H locs ls' hP hS hl')
theorem pw_astore_n (C : pw_F p s m args meth c cc n own ret Ts G) {k : Fin 4} {i : Nat} {x : Nat} {lv' : List (Nat × Value)} (hd : decode cc pc = .ok (.astore_n k, 1)) (hi : (k : Nat) = i) (hn : i < n) (hq : (i, Value.ref x) :: lv.filter (fun q => !(q.1 == i) && !(q.1 + 1 == i && q.2.category == 2)) = lv') (kk : pw_Go p l e R s m args below meth c Q G n (pc + 1) lv' rest μ) : pw_Go p l e R s m args below meth c Q G n pc lv (.ref x :: rest) μ := fun H locs ls hP hS hl => lv_astore_n C.1 C.2.1 hd hi hl hn hq (fun ls' hl' => kk H locs ls' hP hS hl')
theorem pw_astore (C : pw_F p s m args meth c cc n own ret Ts G) {i : Nat} {x : Nat} {lv' : List (Nat × Value)} (hd : decode cc pc = .ok (.astore i, 2)) (hn : i < n) (hq : (i, Value.ref x) :: lv.filter (fun q => !(q.1 == i) && !(q.1 + 1 == i && q.2.category == 2)) = lv') (kk : pw_Go p l e R s m args below meth c Q G n (pc + 2) lv' rest μ) : pw_Go p l e R s m args below meth c Q G n pc lv (.ref x :: rest) μ := fun H locs ls hP hS hl => lv_astore C.1 C.2.1 hd hl hn hq (fun ls' hl' => kk H locs ls' hP hS hl')
theorem pw_iinc (C : pw_F p s m args meth c cc n own ret Ts G) {i q : Nat} {k : Int} {x v : Int32} {lv' : List (Nat × Value)} (hd : decode cc pc = .ok (.iinc i k, 3)) (hk : lv[q]? = some (i, .int x)) (hv : x + Int32.ofInt k = v) (hn : i < n) (hq : (i, Value.int v) :: lv.filter (fun q => !(q.1 == i) && !(q.1 + 1 == i && q.2.category == 2)) = lv') (kk : pw_Go p l e R s m args below meth c Q G n (pc + 3) lv' rest μ) : pw_Go p l e R s m args below meth c Q G n pc lv rest μ := fun H locs ls hP hS hl => lv_iinc C.1 C.2.1 hd hl hk hv hn hq (fun ls' hl' => kk H locs ls' hP hS hl')
theorem pw_lstore_n (C : pw_F p s m args meth c cc n own ret Ts G) {k : Fin 4} {i : Nat} {x : Int64} {lv' : List (Nat × Value)} (hd : decode cc pc = .ok (.lstore_n k, 1)) (hi : (k : Nat) = i) (hn : i + 1 < n) (hq : (i, Value.long x) :: lv.filter (fun q => !(q.1 == i) && (!(q.1 == i + 1) && !(q.1 + 1 == i && q.2.category == 2))) = lv') (kk : pw_Go p l e R s m args below meth c Q G n (pc + 1) lv' rest μ) : pw_Go p l e R s m args below meth c Q G n pc lv (.long x :: rest) μ := fun H locs ls hP hS hl => lv_lstore_n C.1 C.2.1 hd hi hl hn hq (fun ls' hl' => kk H locs ls' hP hS hl')
theorem pw_lstore (C : pw_F p s m args meth c cc n own ret Ts G) {i : Nat} {x : Int64} {lv' : List (Nat × Value)} (hd : decode cc pc = .ok (.lstore i, 2)) (hn : i + 1 < n) (hq : (i, Value.long x) :: lv.filter (fun q => !(q.1 == i) && (!(q.1 == i + 1) && !(q.1 + 1 == i && q.2.category == 2))) = lv') (kk : pw_Go p l e R s m args below meth c Q G n (pc + 2) lv' rest μ) : pw_Go p l e R s m args below meth c Q G n pc lv (.long x :: rest) μ := fun H locs ls hP hS hl => lv_lstore C.1 C.2.1 hd hl hn hq (fun ls' hl' => kk H locs ls' hP hS hl')
theorem pw_iadd (C : pw_F p s m args meth c cc n own ret Ts G) {x y : Int32} (hd : decode cc pc = .ok (.iadd, 1)) (kk : pw_Go p l e R s m args below meth c Q G n (pc + 1) lv (.int (x + y) :: rest) μ) : pw_Go p l e R s m args below meth c Q G n pc lv (.int y :: .int x :: rest) μ := fun H locs ls hP hS hl => lv_iadd C.1 C.2.1 hd (kk H locs ls hP hS hl)
theorem pw_isub (C : pw_F p s m args meth c cc n own ret Ts G) {x y : Int32} (hd : decode cc pc = .ok (.isub, 1)) (kk : pw_Go p l e R s m args below meth c Q G n (pc + 1) lv (.int (x - y) :: rest) μ) : pw_Go p l e R s m args below meth c Q G n pc lv (.int y :: .int x :: rest) μ := fun H locs ls hP hS hl => lv_isub C.1 C.2.1 hd (kk H locs ls hP hS hl)
theorem pw_imul (C : pw_F p s m args meth c cc n own ret Ts G) {x y : Int32} (hd : decode cc pc = .ok (.imul, 1)) (kk : pw_Go p l e R s m args below meth c Q G n (pc + 1) lv (.int (x * y) :: rest) μ) : pw_Go p l e R s m args below meth c Q G n pc lv (.int y :: .int x :: rest) μ := fun H locs ls hP hS hl => lv_imul C.1 C.2.1 hd (kk H locs ls hP hS hl)
theorem pw_iand (C : pw_F p s m args meth c cc n own ret Ts G) {x y : Int32} (hd : decode cc pc = .ok (.iand, 1)) (kk : pw_Go p l e R s m args below meth c Q G n (pc + 1) lv (.int (x &&& y) :: rest) μ) : pw_Go p l e R s m args below meth c Q G n pc lv (.int y :: .int x :: rest) μ := fun H locs ls hP hS hl => lv_iand C.1 C.2.1 hd (kk H locs ls hP hS hl)
theorem pw_ior (C : pw_F p s m args meth c cc n own ret Ts G) {x y : Int32} (hd : decode cc pc = .ok (.ior, 1)) (kk : pw_Go p l e R s m args below meth c Q G n (pc + 1) lv (.int (x ||| y) :: rest) μ) : pw_Go p l e R s m args below meth c Q G n pc lv (.int y :: .int x :: rest) μ := fun H locs ls hP hS hl => lv_ior C.1 C.2.1 hd (kk H locs ls hP hS hl)
theorem pw_ixor (C : pw_F p s m args meth c cc n own ret Ts G) {x y : Int32} (hd : decode cc pc = .ok (.ixor, 1)) (kk : pw_Go p l e R s m args below meth c Q G n (pc + 1) lv (.int (x ^^^ y) :: rest) μ) : pw_Go p l e R s m args below meth c Q G n pc lv (.int y :: .int x :: rest) μ := fun H locs ls hP hS hl => lv_ixor C.1 C.2.1 hd (kk H locs ls hP hS hl)
theorem pw_ishl (C : pw_F p s m args meth c cc n own ret Ts G) {x y : Int32} (hd : decode cc pc = .ok (.ishl, 1)) (kk : pw_Go p l e R s m args below meth c Q G n (pc + 1) lv (.int (x <<< (y &&& 31)) :: rest) μ) : pw_Go p l e R s m args below meth c Q G n pc lv (.int y :: .int x :: rest) μ := fun H locs ls hP hS hl => lv_ishl C.1 C.2.1 hd (kk H locs ls hP hS hl)
theorem pw_ishr (C : pw_F p s m args meth c cc n own ret Ts G) {x y : Int32} (hd : decode cc pc = .ok (.ishr, 1)) (kk : pw_Go p l e R s m args below meth c Q G n (pc + 1) lv (.int (x >>> (y &&& 31)) :: rest) μ) : pw_Go p l e R s m args below meth c Q G n pc lv (.int y :: .int x :: rest) μ := fun H locs ls hP hS hl => lv_ishr C.1 C.2.1 hd (kk H locs ls hP hS hl)
theorem pw_iushr (C : pw_F p s m args meth c cc n own ret Ts G) {x y : Int32} (hd : decode cc pc = .ok (.iushr, 1)) (kk : pw_Go p l e R s m args below meth c Q G n (pc + 1) lv (.int ((x.toUInt32 >>> (y.toUInt32 &&& Int32.toUInt32 31)).toInt32) :: rest) μ) : pw_Go p l e R s m args below meth c Q G n pc lv (.int y :: .int x :: rest) μ := fun H locs ls hP hS hl => lv_iushr C.1 C.2.1 hd rfl (kk H locs ls hP hS hl)
theorem pw_idiv (C : pw_F p s m args meth c cc n own ret Ts G) {x y : Int32} (hd : decode cc pc = .ok (.idiv, 1)) (hne : ¬ y = 0) (kk : pw_Go p l e R s m args below meth c Q G n (pc + 1) lv (.int (x / y) :: rest) μ) : pw_Go p l e R s m args below meth c Q G n pc lv (.int y :: .int x :: rest) μ := fun H locs ls hP hS hl => lv_idiv C.1 C.2.1 hd hne (kk H locs ls hP hS hl)
theorem pw_irem (C : pw_F p s m args meth c cc n own ret Ts G) {x y : Int32} (hd : decode cc pc = .ok (.irem, 1)) (hne : ¬ y = 0) (kk : pw_Go p l e R s m args below meth c Q G n (pc + 1) lv (.int (x - x / y * y) :: rest) μ) : pw_Go p l e R s m args below meth c Q G n pc lv (.int y :: .int x :: rest) μ := fun H locs ls hP hS hl => lv_irem C.1 C.2.1 hd hne (kk H locs ls hP hS hl)
theorem pw_ladd (C : pw_F p s m args meth c cc n own ret Ts G) {x y : Int64} (hd : decode cc pc = .ok (.ladd, 1)) (kk : pw_Go p l e R s m args below meth c Q G n (pc + 1) lv (.long (x + y) :: rest) μ) : pw_Go p l e R s m args below meth c Q G n pc lv (.long y :: .long x :: rest) μ := fun H locs ls hP hS hl => lv_ladd C.1 C.2.1 hd (kk H locs ls hP hS hl)
theorem pw_lsub (C : pw_F p s m args meth c cc n own ret Ts G) {x y : Int64} (hd : decode cc pc = .ok (.lsub, 1)) (kk : pw_Go p l e R s m args below meth c Q G n (pc + 1) lv (.long (x - y) :: rest) μ) : pw_Go p l e R s m args below meth c Q G n pc lv (.long y :: .long x :: rest) μ := fun H locs ls hP hS hl => lv_lsub C.1 C.2.1 hd (kk H locs ls hP hS hl)
theorem pw_lmul (C : pw_F p s m args meth c cc n own ret Ts G) {x y : Int64} (hd : decode cc pc = .ok (.lmul, 1)) (kk : pw_Go p l e R s m args below meth c Q G n (pc + 1) lv (.long (x * y) :: rest) μ) : pw_Go p l e R s m args below meth c Q G n pc lv (.long y :: .long x :: rest) μ := fun H locs ls hP hS hl => lv_lmul C.1 C.2.1 hd (kk H locs ls hP hS hl)
theorem pw_lrem (C : pw_F p s m args meth c cc n own ret Ts G) {x y : Int64} (hd : decode cc pc = .ok (.lrem, 1)) (hne : ¬ y = 0) (kk : pw_Go p l e R s m args below meth c Q G n (pc + 1) lv (.long (x - x / y * y) :: rest) μ) : pw_Go p l e R s m args below meth c Q G n pc lv (.long y :: .long x :: rest) μ := fun H locs ls hP hS hl => lv_lrem C.1 C.2.1 hd hne (kk H locs ls hP hS hl)
theorem pw_lcmp (C : pw_F p s m args meth c cc n own ret Ts G) {x y : Int64} (hd : decode cc pc = .ok (.lcmp, 1)) (kk : pw_Go p l e R s m args below meth c Q G n (pc + 1) lv (.int (lg_cmp x y) :: rest) μ) : pw_Go p l e R s m args below meth c Q G n pc lv (.long y :: .long x :: rest) μ := fun H locs ls hP hS hl => W.lcmp C.1 C.2.1 hd (kk H locs ls hP hS hl)
theorem pw_ineg (C : pw_F p s m args meth c cc n own ret Ts G) {x : Int32} (hd : decode cc pc = .ok (.ineg, 1)) (kk : pw_Go p l e R s m args below meth c Q G n (pc + 1) lv (.int (-x) :: rest) μ) : pw_Go p l e R s m args below meth c Q G n pc lv (.int x :: rest) μ := fun H locs ls hP hS hl => lv_ineg C.1 C.2.1 hd (kk H locs ls hP hS hl)
theorem pw_i2l (C : pw_F p s m args meth c cc n own ret Ts G) {x : Int32} (hd : decode cc pc = .ok (.i2l, 1)) (kk : pw_Go p l e R s m args below meth c Q G n (pc + 1) lv (.long x.toInt64 :: rest) μ) : pw_Go p l e R s m args below meth c Q G n pc lv (.int x :: rest) μ := fun H locs ls hP hS hl => lv_i2l C.1 C.2.1 hd rfl (kk H locs ls hP hS hl)
theorem pw_l2i (C : pw_F p s m args meth c cc n own ret Ts G) {x : Int64} (hd : decode cc pc = .ok (.l2i, 1)) (kk : pw_Go p l e R s m args below meth c Q G n (pc + 1) lv (.int x.toInt32 :: rest) μ) : pw_Go p l e R s m args below meth c Q G n pc lv (.long x :: rest) μ := fun H locs ls hP hS hl => lv_l2i C.1 C.2.1 hd rfl (kk H locs ls hP hS hl)
theorem pw_i2b (C : pw_F p s m args meth c cc n own ret Ts G) {x : Int32} (hd : decode cc pc = .ok (.i2b, 1)) (kk : pw_Go p l e R s m args below meth c Q G n (pc + 1) lv (.int x.toInt8.toInt32 :: rest) μ) : pw_Go p l e R s m args below meth c Q G n pc lv (.int x :: rest) μ := fun H locs ls hP hS hl => lv_i2b C.1 C.2.1 hd rfl (kk H locs ls hP hS hl)
theorem pw_i2s (C : pw_F p s m args meth c cc n own ret Ts G) {x : Int32} (hd : decode cc pc = .ok (.i2s, 1)) (kk : pw_Go p l e R s m args below meth c Q G n (pc + 1) lv (.int x.toInt16.toInt32 :: rest) μ) : pw_Go p l e R s m args below meth c Q G n pc lv (.int x :: rest) μ := fun H locs ls hP hS hl => lv_i2s C.1 C.2.1 hd rfl (kk H locs ls hP hS hl)
theorem pw_dup (C : pw_F p s m args meth c cc n own ret Ts G) {x : Value} (hd : decode cc pc = .ok (.dup, 1)) (hx : x.category = 1) (kk : pw_Go p l e R s m args below meth c Q G n (pc + 1) lv (x :: x :: rest) μ) : pw_Go p l e R s m args below meth c Q G n pc lv (x :: rest) μ := fun H locs ls hP hS hl => lv_dup C.1 C.2.1 hd hx (kk H locs ls hP hS hl)
theorem pw_dup_x1 (C : pw_F p s m args meth c cc n own ret Ts G) {x y : Value} (hd : decode cc pc = .ok (.dup_x1, 1)) (hx : x.category = 1) (hy : y.category = 1) (kk : pw_Go p l e R s m args below meth c Q G n (pc + 1) lv (x :: y :: x :: rest) μ) : pw_Go p l e R s m args below meth c Q G n pc lv (x :: y :: rest) μ := fun H locs ls hP hS hl => lv_dup_x1 C.1 C.2.1 hd hx hy (kk H locs ls hP hS hl)
theorem pw_dup2 (C : pw_F p s m args meth c cc n own ret Ts G) {x y : Value} (hd : decode cc pc = .ok (.dup2, 1)) (hx : x.category = 1) (hy : y.category = 1) (kk : pw_Go p l e R s m args below meth c Q G n (pc + 1) lv (x :: y :: x :: y :: rest) μ) : pw_Go p l e R s m args below meth c Q G n pc lv (x :: y :: rest) μ := fun H locs ls hP hS hl => lv_dup2_11 C.1 C.2.1 hd hx hy (kk H locs ls hP hS hl)
theorem pw_pop (C : pw_F p s m args meth c cc n own ret Ts G) {x : Value} (hd : decode cc pc = .ok (.pop, 1)) (hx : x.category = 1) (kk : pw_Go p l e R s m args below meth c Q G n (pc + 1) lv rest μ) : pw_Go p l e R s m args below meth c Q G n pc lv (x :: rest) μ := fun H locs ls hP hS hl => lv_pop C.1 C.2.1 hd hx (kk H locs ls hP hS hl)
theorem pw_icmp_eq (C : pw_F p s m args meth c cc n own ret Ts G) {x y : Int32} {off : Int} {tgt : Nat} (hd : decode cc pc = .ok (.if_icmp .eq off, 3)) (ht : (pc : Int) + off = (tgt : Int)) (kt : x = y → pw_Go p l e R s m args below meth c Q G n tgt lv rest μ) (kf : ¬ (x = y) → pw_Go p l e R s m args below meth c Q G n (pc + 3) lv rest μ) : pw_Go p l e R s m args below meth c Q G n pc lv (.int y :: .int x :: rest) μ := fun H locs ls hP hS hl => lv_icmp_eq C.1 C.2.1 hd ht (fun q => kt q H locs ls hP hS hl) (fun q => kf q H locs ls hP hS hl)
theorem pw_icmp_ne (C : pw_F p s m args meth c cc n own ret Ts G) {x y : Int32} {off : Int} {tgt : Nat} (hd : decode cc pc = .ok (.if_icmp .ne off, 3)) (ht : (pc : Int) + off = (tgt : Int)) (kt : x ≠ y → pw_Go p l e R s m args below meth c Q G n tgt lv rest μ) (kf : ¬ (x ≠ y) → pw_Go p l e R s m args below meth c Q G n (pc + 3) lv rest μ) : pw_Go p l e R s m args below meth c Q G n pc lv (.int y :: .int x :: rest) μ := fun H locs ls hP hS hl => lv_icmp_ne C.1 C.2.1 hd ht (fun q => kt q H locs ls hP hS hl) (fun q => kf (fun z => z q) H locs ls hP hS hl)
theorem pw_icmp_lt (C : pw_F p s m args meth c cc n own ret Ts G) {x y : Int32} {off : Int} {tgt : Nat} (hd : decode cc pc = .ok (.if_icmp .lt off, 3)) (ht : (pc : Int) + off = (tgt : Int)) (kt : x < y → pw_Go p l e R s m args below meth c Q G n tgt lv rest μ) (kf : ¬ (x < y) → pw_Go p l e R s m args below meth c Q G n (pc + 3) lv rest μ) : pw_Go p l e R s m args below meth c Q G n pc lv (.int y :: .int x :: rest) μ := fun H locs ls hP hS hl => lv_icmp_lt C.1 C.2.1 hd ht (fun q => kt q H locs ls hP hS hl) (fun q => kf q H locs ls hP hS hl)
theorem pw_icmp_ge (C : pw_F p s m args meth c cc n own ret Ts G) {x y : Int32} {off : Int} {tgt : Nat} (hd : decode cc pc = .ok (.if_icmp .ge off, 3)) (ht : (pc : Int) + off = (tgt : Int)) (kt : y ≤ x → pw_Go p l e R s m args below meth c Q G n tgt lv rest μ) (kf : ¬ (y ≤ x) → pw_Go p l e R s m args below meth c Q G n (pc + 3) lv rest μ) : pw_Go p l e R s m args below meth c Q G n pc lv (.int y :: .int x :: rest) μ := fun H locs ls hP hS hl => lv_icmp_ge C.1 C.2.1 hd ht (fun q => kt q H locs ls hP hS hl) (fun q => kf q H locs ls hP hS hl)
theorem pw_icmp_gt (C : pw_F p s m args meth c cc n own ret Ts G) {x y : Int32} {off : Int} {tgt : Nat} (hd : decode cc pc = .ok (.if_icmp .gt off, 3)) (ht : (pc : Int) + off = (tgt : Int)) (kt : y < x → pw_Go p l e R s m args below meth c Q G n tgt lv rest μ) (kf : ¬ (y < x) → pw_Go p l e R s m args below meth c Q G n (pc + 3) lv rest μ) : pw_Go p l e R s m args below meth c Q G n pc lv (.int y :: .int x :: rest) μ := fun H locs ls hP hS hl => lv_icmp_gt C.1 C.2.1 hd ht (fun q => kt q H locs ls hP hS hl) (fun q => kf q H locs ls hP hS hl)
theorem pw_icmp_le (C : pw_F p s m args meth c cc n own ret Ts G) {x y : Int32} {off : Int} {tgt : Nat} (hd : decode cc pc = .ok (.if_icmp .le off, 3)) (ht : (pc : Int) + off = (tgt : Int)) (kt : x ≤ y → pw_Go p l e R s m args below meth c Q G n tgt lv rest μ) (kf : ¬ (x ≤ y) → pw_Go p l e R s m args below meth c Q G n (pc + 3) lv rest μ) : pw_Go p l e R s m args below meth c Q G n pc lv (.int y :: .int x :: rest) μ := fun H locs ls hP hS hl => lv_icmp_le C.1 C.2.1 hd ht (fun q => kt q H locs ls hP hS hl) (fun q => kf q H locs ls hP hS hl)
theorem pw_if_eq (C : pw_F p s m args meth c cc n own ret Ts G) {x : Int32} {off : Int} {tgt : Nat} (hd : decode cc pc = .ok (.ifCond .eq off, 3)) (ht : (pc : Int) + off = (tgt : Int)) (kt : x = 0 → pw_Go p l e R s m args below meth c Q G n tgt lv rest μ) (kf : ¬ (x = 0) → pw_Go p l e R s m args below meth c Q G n (pc + 3) lv rest μ) : pw_Go p l e R s m args below meth c Q G n pc lv (.int x :: rest) μ := fun H locs ls hP hS hl => lv_if_eq C.1 C.2.1 hd ht (fun q => kt q H locs ls hP hS hl) (fun q => kf q H locs ls hP hS hl)
theorem pw_if_ne (C : pw_F p s m args meth c cc n own ret Ts G) {x : Int32} {off : Int} {tgt : Nat} (hd : decode cc pc = .ok (.ifCond .ne off, 3)) (ht : (pc : Int) + off = (tgt : Int)) (kt : x ≠ 0 → pw_Go p l e R s m args below meth c Q G n tgt lv rest μ) (kf : ¬ (x ≠ 0) → pw_Go p l e R s m args below meth c Q G n (pc + 3) lv rest μ) : pw_Go p l e R s m args below meth c Q G n pc lv (.int x :: rest) μ := fun H locs ls hP hS hl => lv_if_ne C.1 C.2.1 hd ht (fun q => kt q H locs ls hP hS hl) (fun q => kf (fun z => z q) H locs ls hP hS hl)
theorem pw_if_lt (C : pw_F p s m args meth c cc n own ret Ts G) {x : Int32} {off : Int} {tgt : Nat} (hd : decode cc pc = .ok (.ifCond .lt off, 3)) (ht : (pc : Int) + off = (tgt : Int)) (kt : x < 0 → pw_Go p l e R s m args below meth c Q G n tgt lv rest μ) (kf : ¬ (x < 0) → pw_Go p l e R s m args below meth c Q G n (pc + 3) lv rest μ) : pw_Go p l e R s m args below meth c Q G n pc lv (.int x :: rest) μ := fun H locs ls hP hS hl => lv_if_lt C.1 C.2.1 hd ht (fun q => kt q H locs ls hP hS hl) (fun q => kf q H locs ls hP hS hl)
theorem pw_if_ge (C : pw_F p s m args meth c cc n own ret Ts G) {x : Int32} {off : Int} {tgt : Nat} (hd : decode cc pc = .ok (.ifCond .ge off, 3)) (ht : (pc : Int) + off = (tgt : Int)) (kt : 0 ≤ x → pw_Go p l e R s m args below meth c Q G n tgt lv rest μ) (kf : ¬ (0 ≤ x) → pw_Go p l e R s m args below meth c Q G n (pc + 3) lv rest μ) : pw_Go p l e R s m args below meth c Q G n pc lv (.int x :: rest) μ := fun H locs ls hP hS hl => lv_if_ge C.1 C.2.1 hd ht (fun q => kt q H locs ls hP hS hl) (fun q => kf q H locs ls hP hS hl)
theorem pw_if_gt (C : pw_F p s m args meth c cc n own ret Ts G) {x : Int32} {off : Int} {tgt : Nat} (hd : decode cc pc = .ok (.ifCond .gt off, 3)) (ht : (pc : Int) + off = (tgt : Int)) (kt : 0 < x → pw_Go p l e R s m args below meth c Q G n tgt lv rest μ) (kf : ¬ (0 < x) → pw_Go p l e R s m args below meth c Q G n (pc + 3) lv rest μ) : pw_Go p l e R s m args below meth c Q G n pc lv (.int x :: rest) μ := fun H locs ls hP hS hl => lv_if_gt C.1 C.2.1 hd ht (fun q => kt q H locs ls hP hS hl) (fun q => kf q H locs ls hP hS hl)
theorem pw_if_le (C : pw_F p s m args meth c cc n own ret Ts G) {x : Int32} {off : Int} {tgt : Nat} (hd : decode cc pc = .ok (.ifCond .le off, 3)) (ht : (pc : Int) + off = (tgt : Int)) (kt : x ≤ 0 → pw_Go p l e R s m args below meth c Q G n tgt lv rest μ) (kf : ¬ (x ≤ 0) → pw_Go p l e R s m args below meth c Q G n (pc + 3) lv rest μ) : pw_Go p l e R s m args below meth c Q G n pc lv (.int x :: rest) μ := fun H locs ls hP hS hl => lv_if_le C.1 C.2.1 hd ht (fun q => kt q H locs ls hP hS hl) (fun q => kf q H locs ls hP hS hl)
theorem pw_goto (C : pw_F p s m args meth c cc n own ret Ts G) {off : Int} {tgt : Nat} (hd : decode cc pc = .ok (.goto off, 3)) (ht : (pc : Int) + off = (tgt : Int)) (kk : pw_Go p l e R s m args below meth c Q G n tgt lv rest μ) : pw_Go p l e R s m args below meth c Q G n pc lv rest μ := fun H locs ls hP hS hl => lv_goto C.1 C.2.1 hd ht (kk H locs ls hP hS hl)
theorem pw_tabIn (C : pw_F p s m args meth c cc n own ret Ts G) {dflt lo hi : Int} {offs : Array Int} {len : Nat} {x : Int32} {off : Int} {tgt : Nat} (v : Int32) (hx : x = v) (hd : decode cc pc = .ok (.tableswitch dflt lo hi offs, len)) (h1 : ¬ v.toInt < lo) (h2 : ¬ hi < v.toInt) (ho : offs[(v.toInt - lo).toNat]? = some off) (ht : (pc : Int) + off = (tgt : Int)) (kk : pw_Go p l e R s m args below meth c Q G n tgt lv rest μ) : pw_Go p l e R s m args below meth c Q G n pc lv (.int x :: rest) μ := by
  subst hx
  exact fun H locs ls hP hS hl => lv_tableIn C.1 C.2.1 hd h1 h2 ho ht (kk H locs ls hP hS hl)
theorem pw_tabOut (C : pw_F p s m args meth c cc n own ret Ts G) {dflt lo hi : Int} {offs : Array Int} {len : Nat} {x : Int32} {tgt : Nat} (hd : decode cc pc = .ok (.tableswitch dflt lo hi offs, len)) (h : x.toInt < lo ∨ hi < x.toInt) (ht : (pc : Int) + dflt = (tgt : Int)) (kk : pw_Go p l e R s m args below meth c Q G n tgt lv rest μ) : pw_Go p l e R s m args below meth c Q G n pc lv (.int x :: rest) μ := fun H locs ls hP hS hl => lv_tableOut C.1 C.2.1 hd h ht (kk H locs ls hP hS hl)
theorem pw_look (C : pw_F p s m args meth c cc n own ret Ts G) {dflt : Int} {ps : Array (Int × Int)} {len : Nat} {x : Int32} {off : Int} {tgt : Nat} (hd : decode cc pc = .ok (.lookupswitch dflt ps, len)) (hp : (ps.toList.zip (ps.toList.drop 1)).all (fun (a, next) => a.1 < next.1) = true) (ho : Op.lookupswitch.offset ps.toList dflt x.toInt = off) (ht : (pc : Int) + off = (tgt : Int)) (kk : pw_Go p l e R s m args below meth c Q G n tgt lv rest μ) : pw_Go p l e R s m args below meth c Q G n pc lv (.int x :: rest) μ := fun H locs ls hP hS hl => lv_lookup C.1 C.2.1 hd hp ho ht (kk H locs ls hP hS hl)
theorem pw_mmin (C : pw_F p s m args meth c cc n own ret Ts G) {index : Nat} {x y : Int32} (hlink : (Cond.methodLink own index Lib.Math.min.name).before args s = true) (hstat : (Cond.static Lib.Math.min.name).before args s = true) (hini : (Cond.initialized "java/lang/Math").before args s = true) (hcode : (Cond.code Lib.Math.min.name Lib.Math.min.code 2 (some .int)).before args s = true) (hframes : 1 ≤ R.frames) (hlocals : (rest.map fun v => v.category).sum + 13 ≤ R.locals) (hd : decode cc pc = .ok (.invokestatic index, 3)) (kk : pw_Go p l e R s m args below meth c Q G n (pc + 3) lv (.int (if y < x then y else x) :: rest) μ) : pw_Go p l e R s m args below meth c Q G n pc lv (.int y :: .int x :: rest) μ := fun H locs ls hP hS hl => va_mmin C.1 C.2.1 (C.2.2.1.trans hl.1.symm) C.2.2.2.1 hlink hstat hini hcode hframes hlocals (Nat.zero_le _) (Nat.zero_le _) hd (kk H locs ls hP hS hl)
theorem pw_copyi (C : pw_F p s m args meth c cc n own ret Ts G) {index a0 a1 n0 n1 : Nat} {sp dp k : Int32} (hlink : (Cond.methodLink own index arraycopyName).before args s = true) (hnat : (Cond.native arraycopyName).before args s = true) (hstat : (Cond.static arraycopyName).before args s = true) (hini : (Cond.initialized "java/lang/System").before args s = true) (l0 : a0 < 63) (l1 : a1 < 63) (s0 : ∀ r, pw_cell G a0 r = pw_arr G n0 r) (s1 : ∀ r, pw_cell G a1 r = pw_arr G n1 r) (h : ¬ sp < 0 ∧ ¬ dp < 0 ∧ ¬ k < 0 ∧ sp.toNatClampNeg + k.toNatClampNeg ≤ n0 ∧ dp.toNatClampNeg + k.toNatClampNeg ≤ n1) (hframes : 1 ≤ R.frames) (hlocals : (rest.map fun v => v.category).sum + (nativeFrameWords "java/lang/System" "arraycopy" 5 + 11) ≤ R.locals) (hd : decode cc pc = .ok (.invokestatic index, 3)) (kk : pw_Go p l e R s m args below meth c Q G n (pc + 3) lv rest (va_up μ a1 (va_cpy (μ a0) (μ a1) sp.toNatClampNeg dp.toNatClampNeg k.toNatClampNeg))) : pw_Go p l e R s m args below meth c Q G n pc lv (.int k :: .int dp :: .ref (gad G a1) :: .int sp :: .ref (gad G a0) :: rest) μ := fun H locs ls hP hS hl => va_copyi C.1 C.2.1 (C.2.2.1.trans hl.1.symm) C.2.2.2.1 hlink hnat hstat hini C.2.2.2.2.2.2.2.1.1 hP (pw_D C.2.2.2.2.2.2.2.2 μ) hS a0 a1 0 0 (by rw [pw_wl_get l0, s0]; rfl) (by rw [pw_wl_get l1, s1]; rfl) rfl rfl rfl h.1 h.2.1 h.2.2.1 h.2.2.2.1 h.2.2.2.2 (fun _ _ => rfl) hframes hlocals hd (fun H1 locs1 hP1 _ hS1 => kk H1 locs1 ls (by have q := pw_wl_set (G := G) (μ := μ) (va_cpy (μ a0) (μ a1) sp.toNatClampNeg dp.toNatClampNeg k.toNatClampNeg) l1; rw [s1] at q; exact q ▸ hP1) hS1 hl)
theorem pw_get (C : pw_F p s m args meth c cc n own ret Ts G) {C0 : String} {T : u_T} {N ci index o : Nat} {fs : List Value} {v : Value} (hin : ∀ w ∈ u_ws C0 T N, w ∈ Ts) (ho : o < 63) (sh : pw_cell G o (μ o) = .inr (ci, fs)) (hc : vwCl[ci]? = some (C0, T, N)) (k : Nat) (hk : k < N) (hlink : (Cond.fieldLink own index (T k).1 (T k).2.1 (T k).2.2.1).before args s = true) (hv : fs[k]? = some v) (hd : decode cc pc = .ok (.getfield index, 3)) (kk : pw_Go p l e R s m args below meth c Q G n (pc + 3) lv (v :: rest) μ) : pw_Go p l e R s m args below meth c Q G n pc lv (.ref (gad G o) :: rest) μ := fun H locs ls hP hS hl => va_get C.1 C.2.1 C.2.2.2.2.1 hin C.2.2.2.1 C.2.2.2.2.2.2.2.1.1 hP o (by rw [pw_wl_get ho, sh]) hc k hk hlink (fun _ h9 => h9) hv hd (kk H locs ls hP hS hl)
theorem pw_getN (C : pw_F p s m args meth c cc n own ret Ts G) {C0 : String} {T : u_T} {N ci index o : Nat} {fs : List Value} {host : String} {v : Value} (hin : ∀ w ∈ u_ws C0 T N, w ∈ Ts) (ho : o < 63) (sh : pw_cell G o (μ o) = .inr (ci, fs)) (hc : vwCl[ci]? = some (C0, T, N)) (k : Nat) (hk : k < N) (i : Nat) (hlink : pw_nf[i]? = some (own, index, (T k).1, (T k).2.1, (T k).2.2.1, host)) (hv : fs[k]? = some v) (hd : decode cc pc = .ok (.getfield index, 3)) (kk : pw_Go p l e R s m args below meth c Q G n (pc + 3) lv (v :: rest) μ) : pw_Go p l e R s m args below meth c Q G n pc lv (.ref (gad G o) :: rest) μ := fun H locs ls hP hS hl => va_getN C.1 C.2.1 C.2.2.2.2.1 hin C.2.2.2.1 C.2.2.2.2.2.2.2.1.1 hP o (by rw [pw_wl_get ho, sh]) hc k hk (va_Nw.use rfl (C.2.2.2.2.2.2.2.1.2.1.1 _ (List.mem_of_getElem? hlink))) (fun _ h9 => h9) hv hd (kk H locs ls hP hS hl)
theorem pw_put (C : pw_F p s m args meth c cc n own ret Ts G) {C0 : String} {T : u_T} {N ci index o : Nat} {fs : List Value} {host : String} {ty : FieldType} {x : Int32} (hin : ∀ w ∈ u_ws C0 T N, w ∈ Ts) (ty0 : Nat → FieldType) (hty : ∀ k, k < N → parseFieldDescriptor (T k).2.2.1 = some (ty0 k)) (hnm : ∀ a, a < N → ∀ b, b < N → a ≠ b → (T a).2.1 ≠ (T b).2.1) (ho : o < 63) (sh : pw_cell G o (μ o) = .inr (ci, fs)) (hc : vwCl[ci]? = some (C0, T, N)) (k : Nat) (hk : k < N) (sh2 : pw_cell G o (upd (μ o) k x) = .inr (ci, fs.set k (.int x))) (hlink : (Cond.fieldLink own index (T k).1 (T k).2.1 (T k).2.2.1).before args s = true) (hfin : (T k).2.2.2 = false) (hd0 : parseFieldDescriptor (T k).2.2.1 = some ty) (hn : narrow ty (.int x) = .int x ∧ fits ty (.int x) = true) (hl0 : k < fs.length) (hd : decode cc pc = .ok (.putfield index, 3)) (kk : pw_Go p l e R s m args below meth c Q G n (pc + 3) lv rest (pw_st μ o k x)) : pw_Go p l e R s m args below meth c Q G n pc lv (.int x :: .ref (gad G o) :: rest) μ := fun H locs ls hP hS hl => va_put C.1 C.2.1 C.2.2.2.2.1 hin ty0 hty hnm C.2.2.2.1 C.2.2.2.2.2.2.2.1.1 hP (pw_D C.2.2.2.2.2.2.2.2 μ) hS o (by rw [pw_wl_get ho, sh]) hc k hk hlink (fun _ h9 => h9) hfin hd0 hn.1 hn.2 hl0 hd (fun H1 locs1 hP1 _ hS1 => kk H1 locs1 ls (by rw [← sh2, pw_wl_set _ ho] at hP1; exact hP1) hS1 hl)
theorem pw_putN (C : pw_F p s m args meth c cc n own ret Ts G) {C0 : String} {T : u_T} {N ci index o : Nat} {fs : List Value} {host : String} {ty : FieldType} {x : Int32} (hin : ∀ w ∈ u_ws C0 T N, w ∈ Ts) (ty0 : Nat → FieldType) (hty : ∀ k, k < N → parseFieldDescriptor (T k).2.2.1 = some (ty0 k)) (hnm : ∀ a, a < N → ∀ b, b < N → a ≠ b → (T a).2.1 ≠ (T b).2.1) (ho : o < 63) (sh : pw_cell G o (μ o) = .inr (ci, fs)) (hc : vwCl[ci]? = some (C0, T, N)) (k : Nat) (hk : k < N) (sh2 : pw_cell G o (upd (μ o) k x) = .inr (ci, fs.set k (.int x))) (i : Nat) (hlink : pw_nf[i]? = some (own, index, (T k).1, (T k).2.1, (T k).2.2.1, host)) (hfin : (T k).2.2.2 = false) (hd0 : parseFieldDescriptor (T k).2.2.1 = some ty) (hn : narrow ty (.int x) = .int x ∧ fits ty (.int x) = true) (hl0 : k < fs.length) (hd : decode cc pc = .ok (.putfield index, 3)) (kk : pw_Go p l e R s m args below meth c Q G n (pc + 3) lv rest (pw_st μ o k x)) : pw_Go p l e R s m args below meth c Q G n pc lv (.int x :: .ref (gad G o) :: rest) μ := fun H locs ls hP hS hl => va_putN C.1 C.2.1 C.2.2.2.2.1 hin ty0 hty hnm C.2.2.2.1 C.2.2.2.2.2.2.2.1.1 hP (pw_D C.2.2.2.2.2.2.2.2 μ) hS o (by rw [pw_wl_get ho, sh]) hc k hk (va_Nw.use rfl (C.2.2.2.2.2.2.2.1.2.1.1 _ (List.mem_of_getElem? hlink))) (fun _ h9 => h9) hfin hd0 hn.1 hn.2 hl0 hd (fun H1 locs1 hP1 _ hS1 => kk H1 locs1 ls (by rw [← sh2, pw_wl_set _ ho] at hP1; exact hP1) hS1 hl)
theorem pw_iald (C : pw_F p s m args meth c cc n own ret Ts G) {a N : Nat} {i : Int32} (ha : a < 63) (sh : pw_cell G a (μ a) = pw_arr G N (μ a)) (hin : vp_in i N) (hd : decode cc pc = .ok (.iaload, 1)) (kk : pw_Go p l e R s m args below meth c Q G n (pc + 1) lv (.int (μ a i.toNatClampNeg) :: rest) μ) : pw_Go p l e R s m args below meth c Q G n pc lv (.int i :: .ref (gad G a) :: rest) μ := fun H locs ls hP hS hl => va_iald C.1 C.2.1 C.2.2.2.2.2.2.2.1.1 hP a 0 (by rw [pw_wl_get ha, sh]; rfl) rfl hin hd (kk H locs ls hP hS hl)
theorem pw_iast (C : pw_F p s m args meth c cc n own ret Ts G) {a N : Nat} {i x : Int32} (ha : a < 63) (sh : ∀ r, pw_cell G a r = pw_arr G N r) (hin : vp_in i N) (hd : decode cc pc = .ok (.iastore, 1)) (kk : pw_Go p l e R s m args below meth c Q G n (pc + 1) lv rest (pw_st μ a i.toNatClampNeg x)) : pw_Go p l e R s m args below meth c Q G n pc lv (.int x :: .int i :: .ref (gad G a) :: rest) μ := fun H locs ls hP hS hl => va_iast C.1 C.2.1 C.2.2.2.2.2.2.2.1.1 hP (pw_D C.2.2.2.2.2.2.2.2 μ) hS a 0 (by rw [pw_wl_get ha, sh]; rfl) rfl hin hd (fun H1 locs1 hP1 _ hS1 => kk H1 locs1 ls (by have q := pw_wl_set (G := G) (μ := μ) (upd (μ a) i.toNatClampNeg x) ha; rw [sh] at q; rw [← pw_st] at q; exact q ▸ hP1) hS1 hl)
theorem pw_aldR (C : pw_F p s m args meth c cc n own ret Ts G) {i : Int32} (hin : vp_in i 8) (hd : decode cc pc = .ok (.aaload, 1)) (kk : pw_Go p l e R s m args below meth c Q G n (pc + 1) lv (.ref (gad G (24 + 2 * i.toNatClampNeg)) :: rest) μ) : pw_Go p l e R s m args below meth c Q G n pc lv (.int i :: .ref (gad G 1) :: rest) μ := fun H locs ls hP hS hl => va_aldq (f := fun j => some (gad G (24 + 2 * j))) C.1 C.2.1 C.2.2.2.2.2.2.2.1.1 hP 1 2 (by rw [pw_wl_get (by decide)]; rfl) rfl hin hd (kk H locs ls hP hS hl)
theorem pw_aldD (C : pw_F p s m args meth c cc n own ret Ts G) {i : Int32} (hin : vp_in i 2) (hd : decode cc pc = .ok (.aaload, 1)) (kk : pw_Go p l e R s m args below meth c Q G n (pc + 1) lv (.ref (gad G (40 + 7 * i.toNatClampNeg)) :: rest) μ) : pw_Go p l e R s m args below meth c Q G n pc lv (.int i :: .ref (gad G 19) :: rest) μ := fun H locs ls hP hS hl => va_aldq (f := fun j => some (gad G (40 + 7 * j))) C.1 C.2.1 C.2.2.2.2.2.2.2.1.1 hP 19 1 (by rw [pw_wl_get (by decide)]; rfl) rfl hin hd (kk H locs ls hP hS hl)
theorem pw_gets (C : pw_F p s m args meth c cc n own ret Ts G) {index : Nat} (k : Nat) (hk : k < 4) (hlink : (Cond.fieldLink own index "PulpitRoads" (pw_tn k) "[I").before args s = true) (hd : decode cc pc = .ok (.getstatic index, 3)) (kk : pw_Go p l e R s m args below meth c Q G n (pc + 3) lv (.ref (gS G k) :: rest) μ) : pw_Go p l e R s m args below meth c Q G n pc lv rest μ := fun H locs ls hP hS hl => va_gets C.1 C.2.1 (C.2.2.2.2.2.2.2.1.2.2 k hk).1 hS C.2.2.2.1 hlink (fun _ h9 => h9) hd (kk H locs ls hP hS hl)
theorem pw_getsN (C : pw_F p s m args meth c cc n own ret Ts G) {index : Nat} {host : String} (k : Nat) (hk : k < 4) (i : Nat) (hlink : pw_nf[i]? = some (own, index, "PulpitRoads", pw_tn k, "[I", host)) (hd : decode cc pc = .ok (.getstatic index, 3)) (kk : pw_Go p l e R s m args below meth c Q G n (pc + 3) lv (.ref (gS G k) :: rest) μ) : pw_Go p l e R s m args below meth c Q G n pc lv rest μ := fun H locs ls hP hS hl => va_getsN C.1 C.2.1 (C.2.2.2.2.2.2.2.1.2.2 k hk).1 hS C.2.2.2.1 (va_Nw.use rfl (C.2.2.2.2.2.2.2.1.2.1.1 _ (List.mem_of_getElem? hlink))) (fun _ h9 => h9) hd (kk H locs ls hP hS hl)
theorem pw_ti (C : pw_F p s m args meth c cc n own ret Ts G) {i : Int32} (k : Nat) (hk : k < 4) (hin : vp_in i (pw_tl k)) (hd : decode cc pc = .ok (.iaload, 1)) (kk : pw_Go p l e R s m args below meth c Q G n (pc + 1) lv (.int (pw_tv k i.toNatClampNeg) :: rest) μ) : pw_Go p l e R s m args below meth c Q G n pc lv (.int i :: .ref (gS G k) :: rest) μ := fun H locs ls hP hS hl => va_ti C.1 C.2.1 (C.2.2.2.2.2.2.2.1.2.2 k hk).2 hS hin rfl hd (kk H locs ls hP hS hl)
theorem pw_callVi (C : pw_F p s m args meth c cc n own ret Ts G) {y : MethodName} {wsy : List Cond} {rmy : Room} {bytes : ByteArray} {maxL na index : Nat} {rety : Option FieldType} {As : List Value} {μ1 : pw_Mem} {r1 : Int32} {o ci N : Nat} {C0 : String} {T : u_T} {fs : List Value} (ho : o < 63) (sh : pw_cell G o (μ o) = .inr (ci, fs)) (hc : vwCl[ci]? = some (C0, T, N)) (hM : Met l y wsy rmy (va_Pc (.ref (gad G o) :: As) (pw_Pre G μ)) (va_Qi (fun (r : Int32) (u : pw_Mem) => r = r1 ∧ u = μ1) (pw_B G) (gA G)) 0 0 (gA G)) (cw : CallW R s args own C0 index y bytes maxL rety wsy rmy 0 0 na) (hst : st = As.reverse ++ .ref (gad G o) :: rest) (hna : As.length = na) (hrm : (rest.map fun v => v.category).sum ≤ 8) (hd : decode cc pc = .ok (.invokevirtual index, 3)) (kk : pw_Go p l e R s m args below meth c Q G n (pc + 3) lv (.int r1 :: rest) μ1) : pw_Go p l e R s m args below meth c Q G n pc lv st μ := fun H locs ls hP hS hl => va_calli (va_runV (As := As) (rest := rest) (Ts := Ts) (own := own) (nL := n) ⟨C.1, C.2.1, C.2.2.1, C.2.2.2.1, C.2.2.2.2.1⟩ hM cw ⟨pw_Pre.blind, va_recv C.2.2.2.2.2.2.2.1.1 hP (q0 := o) hc (by rw [pw_wl_get ho, sh]), fun U hU hW => ⟨rfl, by rw [hU]; exact hP, C.2.2.2.2.2.2.2.1.step hS hU hW⟩⟩ rfl hna hl.1 hst (lv_room hrm) hd ⟨Nat.zero_le _, Nat.zero_le _⟩) hS (fun q _ h => h) (fun q h => h) (fun r u t H1 locs1 ht hvm hw hB hz1 hk1 hS1 => by obtain ⟨rfl, rfl⟩ := hw; rw [pw_B, ht] at hB; exact kk H1 locs1 ls hB hS1 hl)
theorem pw_callVv (C : pw_F p s m args meth c cc n own ret Ts G) {y : MethodName} {wsy : List Cond} {rmy : Room} {bytes : ByteArray} {maxL na index : Nat} {rety : Option FieldType} {As : List Value} {μ1 : pw_Mem} {o ci N : Nat} {C0 : String} {T : u_T} {fs : List Value} (ho : o < 63) (sh : pw_cell G o (μ o) = .inr (ci, fs)) (hc : vwCl[ci]? = some (C0, T, N)) (hM : Met l y wsy rmy (va_Pc (.ref (gad G o) :: As) (pw_Pre G μ)) (va_Qv (fun (u : pw_Mem) => u = μ1) (pw_B G) (gA G)) 0 0 (gA G)) (cw : CallW R s args own C0 index y bytes maxL rety wsy rmy 0 0 na) (hst : st = As.reverse ++ .ref (gad G o) :: rest) (hna : As.length = na) (hrm : (rest.map fun v => v.category).sum ≤ 8) (hd : decode cc pc = .ok (.invokevirtual index, 3)) (kk : pw_Go p l e R s m args below meth c Q G n (pc + 3) lv rest μ1) : pw_Go p l e R s m args below meth c Q G n pc lv st μ := fun H locs ls hP hS hl => va_callv (va_runV (As := As) (rest := rest) (Ts := Ts) (own := own) (nL := n) ⟨C.1, C.2.1, C.2.2.1, C.2.2.2.1, C.2.2.2.2.1⟩ hM cw ⟨pw_Pre.blind, va_recv C.2.2.2.2.2.2.2.1.1 hP (q0 := o) hc (by rw [pw_wl_get ho, sh]), fun U hU hW => ⟨rfl, by rw [hU]; exact hP, C.2.2.2.2.2.2.2.1.step hS hU hW⟩⟩ rfl hna hl.1 hst (lv_room hrm) hd ⟨Nat.zero_le _, Nat.zero_le _⟩) hS (fun q _ h => h) (fun q h => h) (fun u t H1 locs1 ht hvm hw hB hz1 hk1 hS1 => by subst hw; rw [pw_B, ht] at hB; exact kk H1 locs1 ls hB hS1 hl)
theorem pw_callVNi (C : pw_F p s m args meth c cc n own ret Ts G) {y : MethodName} {wsy : List Cond} {rmy : Room} {bytes : ByteArray} {maxL na index : Nat} {rety : Option FieldType} {As : List Value} {μ1 : pw_Mem} {r1 : Int32} {o ci N : Nat} {C0 : String} {T : u_T} {fs : List Value} (ho : o < 63) (sh : pw_cell G o (μ o) = .inr (ci, fs)) (hc : vwCl[ci]? = some (C0, T, N)) (hM : Met l y wsy rmy (va_Pc (.ref (gad G o) :: As) (pw_Pre G μ)) (va_Qi (fun (r : Int32) (u : pw_Mem) => r = r1 ∧ u = μ1) (pw_B G) (gA G)) 0 0 (gA G)) {host : String} (cw : va_CN R s args own index y host bytes maxL rety wsy rmy 0 0 na ∧ (Cond.instanceMethod y).before args s = true ∧ (Cond.selects C0 y y).before args s = true) (hst : st = As.reverse ++ .ref (gad G o) :: rest) (hna : As.length = na) (hrm : (rest.map fun v => v.category).sum ≤ 8) (hd : decode cc pc = .ok (.invokevirtual index, 3)) (kk : pw_Go p l e R s m args below meth c Q G n (pc + 3) lv (.int r1 :: rest) μ1) : pw_Go p l e R s m args below meth c Q G n pc lv st μ := fun H locs ls hP hS hl => va_calli (va_runVN (As := As) (rest := rest) (Ts := Ts) (own := own) (nL := n) ⟨C.1, C.2.1, C.2.2.1, C.2.2.2.1, C.2.2.2.2.1⟩ hM cw ⟨pw_Pre.blind, va_recv C.2.2.2.2.2.2.2.1.1 hP (q0 := o) hc (by rw [pw_wl_get ho, sh]), fun U hU hW => ⟨rfl, by rw [hU]; exact hP, C.2.2.2.2.2.2.2.1.step hS hU hW⟩⟩ rfl hna hl.1 hst (lv_room hrm) hd ⟨Nat.zero_le _, Nat.zero_le _⟩) hS (fun q _ h => h) (fun q h => h) (fun r u t H1 locs1 ht hvm hw hB hz1 hk1 hS1 => by obtain ⟨rfl, rfl⟩ := hw; rw [pw_B, ht] at hB; exact kk H1 locs1 ls hB hS1 hl)
theorem pw_callVNv (C : pw_F p s m args meth c cc n own ret Ts G) {y : MethodName} {wsy : List Cond} {rmy : Room} {bytes : ByteArray} {maxL na index : Nat} {rety : Option FieldType} {As : List Value} {μ1 : pw_Mem} {o ci N : Nat} {C0 : String} {T : u_T} {fs : List Value} (ho : o < 63) (sh : pw_cell G o (μ o) = .inr (ci, fs)) (hc : vwCl[ci]? = some (C0, T, N)) (hM : Met l y wsy rmy (va_Pc (.ref (gad G o) :: As) (pw_Pre G μ)) (va_Qv (fun (u : pw_Mem) => u = μ1) (pw_B G) (gA G)) 0 0 (gA G)) {host : String} (cw : va_CN R s args own index y host bytes maxL rety wsy rmy 0 0 na ∧ (Cond.instanceMethod y).before args s = true ∧ (Cond.selects C0 y y).before args s = true) (hst : st = As.reverse ++ .ref (gad G o) :: rest) (hna : As.length = na) (hrm : (rest.map fun v => v.category).sum ≤ 8) (hd : decode cc pc = .ok (.invokevirtual index, 3)) (kk : pw_Go p l e R s m args below meth c Q G n (pc + 3) lv rest μ1) : pw_Go p l e R s m args below meth c Q G n pc lv st μ := fun H locs ls hP hS hl => va_callv (va_runVN (As := As) (rest := rest) (Ts := Ts) (own := own) (nL := n) ⟨C.1, C.2.1, C.2.2.1, C.2.2.2.1, C.2.2.2.2.1⟩ hM cw ⟨pw_Pre.blind, va_recv C.2.2.2.2.2.2.2.1.1 hP (q0 := o) hc (by rw [pw_wl_get ho, sh]), fun U hU hW => ⟨rfl, by rw [hU]; exact hP, C.2.2.2.2.2.2.2.1.step hS hU hW⟩⟩ rfl hna hl.1 hst (lv_room hrm) hd ⟨Nat.zero_le _, Nat.zero_le _⟩) hS (fun q _ h => h) (fun q h => h) (fun u t H1 locs1 ht hvm hw hB hz1 hk1 hS1 => by subst hw; rw [pw_B, ht] at hB; exact kk H1 locs1 ls hB hS1 hl)
theorem pw_callSi (C : pw_F p s m args meth c cc n own ret Ts G) {y : MethodName} {wsy : List Cond} {rmy : Room} {bytes : ByteArray} {maxL na index : Nat} {rety : Option FieldType} {As : List Value} {μ1 : pw_Mem} {r1 : Int32} (hM : Met l y wsy rmy (va_Pc As (pw_Pre G μ)) (va_Qi (fun (r : Int32) (u : pw_Mem) => r = r1 ∧ u = μ1) (pw_B G) (gA G)) 0 0 (gA G)) (cw : CallB R s args own index y bytes maxL rety wsy rmy 0 0 na ∧ (Cond.static y).before args s = true) (hst : st = As.reverse ++ rest) (hna : As.length = na) (hrm : (rest.map fun v => v.category).sum ≤ 8) (hd : decode cc pc = .ok (.invokestatic index, 3)) (kk : pw_Go p l e R s m args below meth c Q G n (pc + 3) lv (.int r1 :: rest) μ1) : pw_Go p l e R s m args below meth c Q G n pc lv st μ := fun H locs ls hP hS hl => va_calli (va_runS (As := As) (rest := rest) (Ts := Ts) (own := own) (nL := n) ⟨C.1, C.2.1, C.2.2.1, C.2.2.2.1, C.2.2.2.2.1⟩ hM cw ⟨pw_Pre.blind, fun U hU hW => ⟨rfl, by rw [hU]; exact hP, C.2.2.2.2.2.2.2.1.step hS hU hW⟩⟩ rfl hna hl.1 hst (lv_room hrm) hd ⟨Nat.zero_le _, Nat.zero_le _⟩) hS (fun q _ h => h) (fun q h => h) (fun r u t H1 locs1 ht hvm hw hB hz1 hk1 hS1 => by obtain ⟨rfl, rfl⟩ := hw; rw [pw_B, ht] at hB; exact kk H1 locs1 ls hB hS1 hl)
theorem pw_callSv (C : pw_F p s m args meth c cc n own ret Ts G) {y : MethodName} {wsy : List Cond} {rmy : Room} {bytes : ByteArray} {maxL na index : Nat} {rety : Option FieldType} {As : List Value} {μ1 : pw_Mem} (hM : Met l y wsy rmy (va_Pc As (pw_Pre G μ)) (va_Qv (fun (u : pw_Mem) => u = μ1) (pw_B G) (gA G)) 0 0 (gA G)) (cw : CallB R s args own index y bytes maxL rety wsy rmy 0 0 na ∧ (Cond.static y).before args s = true) (hst : st = As.reverse ++ rest) (hna : As.length = na) (hrm : (rest.map fun v => v.category).sum ≤ 8) (hd : decode cc pc = .ok (.invokestatic index, 3)) (kk : pw_Go p l e R s m args below meth c Q G n (pc + 3) lv rest μ1) : pw_Go p l e R s m args below meth c Q G n pc lv st μ := fun H locs ls hP hS hl => va_callv (va_runS (As := As) (rest := rest) (Ts := Ts) (own := own) (nL := n) ⟨C.1, C.2.1, C.2.2.1, C.2.2.2.1, C.2.2.2.2.1⟩ hM cw ⟨pw_Pre.blind, fun U hU hW => ⟨rfl, by rw [hU]; exact hP, C.2.2.2.2.2.2.2.1.step hS hU hW⟩⟩ rfl hna hl.1 hst (lv_room hrm) hd ⟨Nat.zero_le _, Nat.zero_le _⟩) hS (fun q _ h => h) (fun q h => h) (fun u t H1 locs1 ht hvm hw hB hz1 hk1 hS1 => by subst hw; rw [pw_B, ht] at hB; exact kk H1 locs1 ls hB hS1 hl)
theorem pw_iret (C : pw_F p s m args meth c cc n own (some .int) Ts G) {x r1 : Int32} {μ1 : pw_Mem} (h : some (x, μ) = some (r1, μ1)) (hd : decode cc pc = .ok (.ireturn, 1)) : pw_Go p l e R s m args below meth c (MQ below (va_Qi (fun (r : Int32) (u : pw_Mem) => r = r1 ∧ u = μ1) (pw_B G) (gA G)) args s 0 0 (gA G)) G n pc lv [.int x] μ := by
  cases h
  intro H locs ls hP hS hl
  have hlocks := C.2.2.2.2.2.2.1
  exact W.iret C.1 C.2.1 C.2.2.2.2.2.1 (fun t ht hW => ⟨⟨x, μ, rfl, ⟨rfl, rfl⟩, by rw [pw_B, ht]; exact hP⟩, hS.F ht⟩) hS.2.2 hd
theorem pw_zret (C : pw_F p s m args meth c cc n own (some .boolean) Ts G) {x r1 : Int32} {μ1 : pw_Mem} (hx : x = 0 ∨ x = 1) (h : some (x, μ) = some (r1, μ1)) (hd : decode cc pc = .ok (.ireturn, 1)) : pw_Go p l e R s m args below meth c (MQ below (va_Qi (fun (r : Int32) (u : pw_Mem) => r = r1 ∧ u = μ1) (pw_B G) (gA G)) args s 0 0 (gA G)) G n pc lv [.int x] μ := by
  cases h
  intro H locs ls hP hS hl
  have hlocks := C.2.2.2.2.2.2.1
  exact W.zret (ty := .boolean) C.1 C.2.1 C.2.2.2.2.2.1 (by rcases hx with rfl | rfl <;> decide) (fun t ht hW => ⟨⟨x, μ, rfl, ⟨rfl, rfl⟩, by rw [pw_B, ht]; exact hP⟩, hS.F ht⟩) hS.2.2 hd
theorem pw_vret (C : pw_F p s m args meth c cc n own none Ts G) {μ1 : pw_Mem} (h : some μ = some μ1) (hd : decode cc pc = .ok (.return_, 1)) : pw_Go p l e R s m args below meth c (MQ below (va_Qv (fun (u : pw_Mem) => u = μ1) (pw_B G) (gA G)) args s 0 0 (gA G)) G n pc lv [] μ := by
  cases h
  intro H locs ls hP hS hl
  have hlocks := C.2.2.2.2.2.2.1
  exact W.vret C.1 C.2.1 C.2.2.2.2.2.1 (fun t ht hW => ⟨⟨μ, rfl, rfl, by rw [pw_B, ht]; exact hP⟩, hS.F ht⟩) hS.2.2 hd
/-- fewer locals, in another order -/
theorem pw_sub {lv' : List (Nat × Value)} (ks : List Nat) (hq : lv_pick lv ks = lv') (kk : pw_Go p l e R s m args below meth c Q G n pc lv' st μ) : pw_Go p l e R s m args below meth c Q G n pc lv st μ := fun H locs ls hP hS hl => kk H locs ls hP hS (lv_sub hl ks hq)
end PW
/-- a contract, from its entry -/
theorem pw_met {l : Launch} {G : pw_G} {y : MethodName} {ws ws' : List Cond} {rm : Room} {cc : ByteArray} {maxL : Nat} {ret : Option FieldType} {av : List Value} {μ : pw_Mem} {Qc : Array Value → State → Outcome → State → Prop} {lv : List (Nat × Value)} {own : String}
    (hG : pw_Ok G) (hown : y.cls = own) (hy : plainName y.cls = true) (hw : ws = Cond.code y cc maxL ret :: ws') (hlv : lv_args 0 av = lv) (hn : (lg_sl av).length ≤ maxL)
    (body : ∀ p e s m below meth c, pw_F p s m av.toArray meth c cc maxL own ret ws G → pw_Go p l e rm s m av.toArray below meth c (MQ below Qc av.toArray s 0 0 (gA G)) G maxL 0 lv [] μ) :
    Met l y ws rm (va_Pc av (pw_Pre G μ)) Qc 0 0 (gA G) := by
  refine Met.ofW (cc := cc) (maxL := maxL) (ret := ret) hy hw ?_
  intro p e s m args below meth c s₁ B hml hv
  obtain ⟨rfl, hP, hWp⟩ := hv
  subst hown
  have C : pw_F p s m av.toArray meth c cc maxL y.cls ret ws G := ⟨B.exec, B.bytes, hml, findClass_of_methodNamed B.named, atoms_spec (ws := ws) B.pre, B.returns, B.notSynchronized, hWp, hG⟩
  have hl := lv_entry av (n := maxL) hn
  rw [lg_entry_eq]
  rw [hlv] at hl
  exact body p e s m below meth c C s.heap [] _ hP va_S.rf hl
theorem pw_K4 : pw_KD 4 := Or.inl rfl
theorem pw_K11 : pw_KD 11 := Or.inr (Or.inl rfl)
/-! THE FORMS OF THE PURE FUNCTIONS -/
def fn_ix {R : Type} (i : Int32) (n : Nat) (k : Nat → Option R) : Option R := if i < 0 ∨ n ≤ i.toNatClampNeg then none else k i.toNatClampNeg
def fn_nz {R : Type} (y : Int32) (k : Option R) : Option R := if y = 0 then none else k
def fn_nzl {R : Type} (y : Int64) (k : Option R) : Option R := if y = 0 then none else k
def fn_bz {R : Type} (y : Int32) (k : Option R) : Option R := if y = 0 ∨ y = 1 then k else none
def fn_bi {R : Type} (f : Option (Int32 × pw_Mem)) (k : Int32 → pw_Mem → Option R) : Option R := match f with | none => none | some q => k q.1 q.2
def fn_bv {R : Type} (f : Option pw_Mem) (k : pw_Mem → Option R) : Option R := match f with | none => none | some q => k q
theorem fn_ix_s {R : Type} {i : Int32} {n : Nat} {k : Nat → Option R} {z : R} (h : fn_ix i n k = some z) : vp_in i n ∧ k i.toNatClampNeg = some z := by
  unfold fn_ix at h
  by_cases q : i < 0 ∨ n ≤ i.toNatClampNeg
  · rw [if_pos q] at h; cases h
  · rw [if_neg q] at h; exact ⟨q, h⟩
theorem fn_nz_s {R : Type} {y : Int32} {k : Option R} {z : R} (h : fn_nz y k = some z) : ¬ y = 0 ∧ k = some z := by
  unfold fn_nz at h
  by_cases q : y = 0
  · rw [if_pos q] at h; cases h
  · rw [if_neg q] at h; exact ⟨q, h⟩
theorem fn_nzl_s {R : Type} {y : Int64} {k : Option R} {z : R} (h : fn_nzl y k = some z) : ¬ y = 0 ∧ k = some z := by
  unfold fn_nzl at h
  by_cases q : y = 0
  · rw [if_pos q] at h; cases h
  · rw [if_neg q] at h; exact ⟨q, h⟩
theorem fn_bz_s {R : Type} {y : Int32} {k : Option R} {z : R} (h : fn_bz y k = some z) : (y = 0 ∨ y = 1) ∧ k = some z := by
  unfold fn_bz at h
  by_cases q : y = 0 ∨ y = 1
  · rw [if_pos q] at h; exact ⟨q, h⟩
  · rw [if_neg q] at h; cases h
theorem fn_bi_s {R : Type} {f : Option (Int32 × pw_Mem)} {k : Int32 → pw_Mem → Option R} {z : R} (h : fn_bi f k = some z) : ∃ r μ, f = some (r, μ) ∧ k r μ = some z := by
  cases f with
  | none => cases h
  | some q => exact ⟨q.1, q.2, rfl, h⟩
theorem fn_bv_s {R : Type} {f : Option pw_Mem} {k : pw_Mem → Option R} {z : R} (h : fn_bv f k = some z) : ∃ μ, f = some μ ∧ k μ = some z := by
  cases f with
  | none => cases h
  | some q => exact ⟨q, rfl, h⟩
theorem fn_pos {R : Type} {c : Prop} {d : Decidable c} {a b : Option R} {z : R} (hc : c) (h : (@ite _ c d a b) = some z) : a = some z := by rw [if_pos hc] at h; exact h
theorem fn_neg {R : Type} {c : Prop} {d : Decidable c} {a b : Option R} {z : R} (hc : ¬ c) (h : (@ite _ c d a b) = some z) : b = some z := by rw [if_neg hc] at h; exact h
theorem fn_bool {x : Int32} (h : x = 0 ∨ x = 1) : narrow .boolean (.int x) = .int x ∧ fits .boolean (.int x) = true := by rcases h with rfl | rfl <;> decide
theorem pw_neI {x v : Int32} {k : Int} (h : ¬ x = v) (hk : v.toInt = k) : x.toInt ≠ k := fun q => h (Int32.toInt_inj.mp (q.trans hk.symm))
def fn_cp {R : Type} (sp dp k : Int32) (n0 n1 : Nat) (K : Option R) : Option R := if ¬ sp < 0 ∧ ¬ dp < 0 ∧ ¬ k < 0 ∧ sp.toNatClampNeg + k.toNatClampNeg ≤ n0 ∧ dp.toNatClampNeg + k.toNatClampNeg ≤ n1 then K else none
theorem fn_cp_s {R : Type} {sp dp k : Int32} {n0 n1 : Nat} {K : Option R} {z : R} (h : fn_cp sp dp k n0 n1 K = some z) : (¬ sp < 0 ∧ ¬ dp < 0 ∧ ¬ k < 0 ∧ sp.toNatClampNeg + k.toNatClampNeg ≤ n0 ∧ dp.toNatClampNeg + k.toNatClampNeg ≤ n1) ∧ K = some z := by
  unfold fn_cp at h
  by_cases q : ¬ sp < 0 ∧ ¬ dp < 0 ∧ ¬ k < 0 ∧ sp.toNatClampNeg + k.toNatClampNeg ≤ n0 ∧ dp.toNatClampNeg + k.toNatClampNeg ≤ n1
  · rw [if_pos q] at h; exact ⟨q, h⟩
  · rw [if_neg q] at h; cases h
theorem fn_int (x : Int32) : narrow .int (.int x) = .int x ∧ fits .int (.int x) = true := ⟨rfl, rfl⟩
/-- where ways come together: what is behind stands once -/
def fn_jn0 {R : Type} (K : pw_Mem → Option R) (b : (pw_Mem → Option R) → Option R) : Option R := b K
def fn_jn1 {R : Type} (K : Int32 → pw_Mem → Option R) (b : (Int32 → pw_Mem → Option R) → Option R) : Option R := b K
def fn_jn2 {R : Type} (K : Int32 → Int32 → pw_Mem → Option R) (b : (Int32 → Int32 → pw_Mem → Option R) → Option R) : Option R := b K
def fn_jn3 {R : Type} (K : Int32 → Int32 → Int32 → pw_Mem → Option R) (b : (Int32 → Int32 → Int32 → pw_Mem → Option R) → Option R) : Option R := b K
theorem fn_jn0_s {R : Type} {K : pw_Mem → Option R} {b : (pw_Mem → Option R) → Option R} {z : R} {P : Prop} (Pj : pw_Mem → Prop) (h : fn_jn0 K b = some z) (h1 : ∀ μ, K μ = some z → Pj μ) (h2 : ∀ k : pw_Mem → Option R, (∀ μ, k μ = some z → Pj μ) → b k = some z → P) : P := h2 K h1 h
theorem fn_jn1_s {R : Type} {K : Int32 → pw_Mem → Option R} {b : (Int32 → pw_Mem → Option R) → Option R} {z : R} {P : Prop} (Pj : Int32 → pw_Mem → Prop) (h : fn_jn1 K b = some z) (h1 : ∀ x μ, K x μ = some z → Pj x μ) (h2 : ∀ k : Int32 → pw_Mem → Option R, (∀ x μ, k x μ = some z → Pj x μ) → b k = some z → P) : P := h2 K h1 h
theorem fn_jn2_s {R : Type} {K : Int32 → Int32 → pw_Mem → Option R} {b : (Int32 → Int32 → pw_Mem → Option R) → Option R} {z : R} {P : Prop} (Pj : Int32 → Int32 → pw_Mem → Prop) (h : fn_jn2 K b = some z) (h1 : ∀ x y μ, K x y μ = some z → Pj x y μ) (h2 : ∀ k : Int32 → Int32 → pw_Mem → Option R, (∀ x y μ, k x y μ = some z → Pj x y μ) → b k = some z → P) : P := h2 K h1 h
theorem fn_jn3_s {R : Type} {K : Int32 → Int32 → Int32 → pw_Mem → Option R} {b : (Int32 → Int32 → Int32 → pw_Mem → Option R) → Option R} {z : R} {P : Prop} (Pj : Int32 → Int32 → Int32 → pw_Mem → Prop) (h : fn_jn3 K b = some z) (h1 : ∀ x y w μ, K x y w μ = some z → Pj x y w μ) (h2 : ∀ k : Int32 → Int32 → Int32 → pw_Mem → Option R, (∀ x y w μ, k x y w μ = some z → Pj x y w μ) → b k = some z → P) : P := h2 K h1 h
