/-! THE START: links between nest mates, tables, memory -/
theorem nf_in : ∀ q ∈ pw_nf, Cond.fieldLinkNest q.1 q.2.1 q.2.2.1 q.2.2.2.1 q.2.2.2.2.1 q.2.2.2.2.2 ∈ lw_tbl := by decide +kernel
theorem nm_in : ∀ q ∈ pw_nm, Cond.methodLinkNest q.1 q.2.1 q.2.2.1 q.2.2.2 ∈ lw_tbl := by decide +kernel
theorem ao_in : Cond.arrayOver (.object RX3) ∈ lw_tbl ∧ Cond.arrayOver (.object RX2) ∈ lw_tbl := by decide +kernel
def rw0 : Nat → Int32 := fun j => match j with | 1 => 1 | _ => 0
def mu0 : pw_Mem := fun k => match k with
  | 24 => rw0
  | 26 => rw0
  | 28 => rw0
  | 30 => rw0
  | 32 => rw0
  | 34 => rw0
  | 36 => rw0
  | 38 => rw0
  | 57 => mn8
  | _ => fun _ => 0
def ad0 (qs : List Nat) (k : Nat) : Nat := qs.getD k 0
theorem Iv_0 : Iv mu0 := by
  refine ⟨fun _ => 0, ⟨⟨rfl, rfl, rfl, rfl, rfl, fun s hs => absurd hs (Nat.not_lt_zero _), fun p hp => absurd hp (Nat.not_lt_zero _)⟩, fun i hi => ?_, Or.inr ⟨rfl, rfl, rfl, rfl⟩⟩, ⟨0, fun _ _ => 0, by omega, fun z => by omega, ⟨0, by omega, rfl, rfl, fun k hk => by omega⟩, ⟨rfl, fun k hk => by omega⟩, fun k hk => by omega⟩, fun k hk => ?_, fun r hr => ?_, ⟨0, by omega, rfl, rfl, fun i hi => by omega⟩, ⟨rfl, rfl⟩, ⟨0, by omega, rfl, rfl, fun i hi => by omega⟩⟩
  · rfl
  · have q : k = 0 ∨ k = 1 := by omega
    rcases q with rfl | rfl
    · exact ⟨fun _ => 0, ⟨rfl, rfl, rfl, rfl, rfl, fun s hs => absurd hs (Nat.not_lt_zero _), fun p hp => absurd hp (Nat.not_lt_zero _)⟩, fun i hi => rfl, Or.inr ⟨rfl, rfl⟩⟩
    · exact ⟨fun _ => 0, ⟨rfl, rfl, rfl, rfl, rfl, fun s hs => absurd hs (Nat.not_lt_zero _), fun p hp => absurd hp (Nat.not_lt_zero _)⟩, fun i hi => rfl, Or.inr ⟨rfl, rfl⟩⟩
  · have q : r = 0 ∨ r = 1 ∨ r = 2 ∨ r = 3 ∨ r = 4 ∨ r = 5 ∨ r = 6 ∨ r = 7 := by omega
    rcases q with rfl | rfl | rfl | rfl | rfl | rfl | rfl | rfl <;> exact Or.inl ⟨rfl, by decide⟩
theorem va_Pq {D : va_G} {cl : List vw_C} {ws : va_W} {H : Heap} {k a n : Nat} {cA : ClassId} {f g : Nat → Option Nat} (h : va_P D cl ws H) (hk : ws[k]? = some (a, .inl (cA, n, .inr (.inr (.inr (.inr f)))))) (e : ∀ j, j < n → f j = g j) : va_P D cl (ws.set k (a, .inl (cA, n, .inr (.inr (.inr (.inr g)))))) H := by
  intro i q hi
  by_cases z : k = i
  · subst z
    rw [List.getElem?_set_self (List.getElem?_eq_some_iff.mp hk).1] at hi
    cases hi
    have h1 : H[a]? = some (vp_cell cA (n, .inr (.inr (.inr (.inr f))))) := h k _ hk
    show H[a]? = some (vp_cell cA (n, .inr (.inr (.inr (.inr g)))))
    rw [h1, vp_cell_q, vp_cell_q]
    have : (fun j : Fin n => va_rf (f j.val)) = fun j : Fin n => va_rf (g j.val) := funext fun j => by rw [e j.val j.isLt]
    unfold arrV
    rw [this]
  · rw [List.getElem?_set_ne z] at hi
    exact h i q hi
theorem tb_tab {b : Nat} {s : State} {A : Nat → Prop} (hA : ∀ a : Nat, a < s.heap.size → ¬ A a) (hts : ∀ w ∈ lw_tbl, w.before #[Value.ref b] s = true) (n : String) (N : Nat) (f : Nat → Int32) (hN : N < 100) (h1 : (Cond.laysStatic "PulpitRoads" n "[I") ∈ lw_tbl) (h2 : (Cond.initialized "PulpitRoads") ∈ lw_tbl) (h3 : (Cond.arrayOf (.static "PulpitRoads" n "[I") .int).before #[Value.ref b] s = true) (h4 : (Cond.eq (.length (.static "PulpitRoads" n "[I")) (.int (Int32.ofNat N))).before #[Value.ref b] s = true) (h5 : ∀ j, j < N → (Cond.eq (.elem (.static "PulpitRoads" n "[I") (.int (Int32.ofNat j))) (.int (f j))).before #[Value.ref b] s = true) : ∃ t : Nat, va_Z "PulpitRoads" n "[I" (.ref t) A s s.heap ∧ va_T .int t N (fun j => .int (f j)) A s s.heap := by
  obtain ⟨t, e1, e2⟩ := va_Tof (f := fun j => .int (f j)) (N := N) (by omega) h3 (va_eqt h4) (fun j hj => va_eqt (h5 j hj)) hA
  exact ⟨t, va_Zref (hts _ h1) (hts _ h2) e1 hA, e2⟩
theorem tb_all {b : Nat} {s : State} {A : Nat → Prop} (hA : ∀ a : Nat, a < s.heap.size → ¬ A a) (hts : ∀ w ∈ lw_tbl, w.before #[Value.ref b] s = true) (hgv : (Jvm.Cond.and given_1 narrow_1).before #[Value.ref b] s = true) : ∃ gs : Nat → Nat, ∀ k, k < 4 → va_Z "PulpitRoads" (pw_tn k) "[I" (.ref (gs k)) A s s.heap ∧ va_T .int (gs k) (pw_tl k) (fun j => .int (pw_tv k j)) A s s.heap := by
  have hf := flat_of_before _ hgv
  obtain ⟨t0, z0, y0⟩ := tb_tab hA hts "LETS" 3 (pw_tv 0) (by omega) (by decide +kernel) (by decide +kernel) (hf _ (by decide +kernel)) (hf _ (by decide +kernel)) (fun j hj => by
    have q : j = 0 ∨ j = 1 ∨ j = 2 := by omega
    rcases q with rfl | rfl | rfl <;> exact hf _ (by decide +kernel))
  obtain ⟨t1, z1, y1⟩ := tb_tab hA hts "KIND_ABOVE" 6 (pw_tv 1) (by omega) (by decide +kernel) (by decide +kernel) (hf _ (by decide +kernel)) (hf _ (by decide +kernel)) (fun j hj => by
    have q : j = 0 ∨ j = 1 ∨ j = 2 ∨ j = 3 ∨ j = 4 ∨ j = 5 := by omega
    rcases q with rfl | rfl | rfl | rfl | rfl | rfl <;> exact hf _ (by decide +kernel))
  obtain ⟨t2, z2, y2⟩ := tb_tab hA hts "SIZE_BODIES" 6 (pw_tv 2) (by omega) (by decide +kernel) (by decide +kernel) (hf _ (by decide +kernel)) (hf _ (by decide +kernel)) (fun j hj => by
    have q : j = 0 ∨ j = 1 ∨ j = 2 ∨ j = 3 ∨ j = 4 ∨ j = 5 := by omega
    rcases q with rfl | rfl | rfl | rfl | rfl | rfl <;> exact hf _ (by decide +kernel))
  obtain ⟨t3, z3, y3⟩ := tb_tab hA hts "MARK_BODIES" 6 (pw_tv 3) (by omega) (by decide +kernel) (by decide +kernel) (hf _ (by decide +kernel)) (hf _ (by decide +kernel)) (fun j hj => by
    have q : j = 0 ∨ j = 1 ∨ j = 2 ∨ j = 3 ∨ j = 4 ∨ j = 5 := by omega
    rcases q with rfl | rfl | rfl | rfl | rfl | rfl <;> exact hf _ (by decide +kernel))
  refine ⟨fun k => if k = 0 then t0 else if k = 1 then t1 else if k = 2 then t2 else t3, fun k hk => ?_⟩
  have q : k = 0 ∨ k = 1 ∨ k = 2 ∨ k = 3 := by omega
  rcases q with rfl | rfl | rfl | rfl
  · exact ⟨z0, y0⟩
  · exact ⟨z1, y1⟩
  · exact ⟨z2, y2⟩
  · exact ⟨z3, y3⟩
