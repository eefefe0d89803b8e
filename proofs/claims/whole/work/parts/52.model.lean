set_option maxHeartbeats 4000000 in
set_option maxRecDepth 100000 in
/-- a new reference -/
theorem ci_X6 (l : Launch) (D : va_G) (h0 sz : Nat) : Met l yX6_init wsX6_init ({ frames := 1, cells := 8, slots := 1224, locals := 12 }) (va_Pc [.ref h0] (fun U => U.heap.size = sz ∧ va_P D vwCl [(h0, .inr (6, [.null, .int 0, .null, .int 0, .int 0, .int 0, .null, .null, .null, .null, .int 0, .int 0, .int 0, .null, .null, .int 0]))] U.heap ∧ va_K D vwCl [] U ∧ va_D (fun _ => True) [(h0, .inr (6, [.null, .int 0, .null, .int 0, .int 0, .int 0, .null, .null, .null, .null, .int 0, .int 0, .int 0, .null, .null, .int 0]))])) (va_Qv (fun _ : Unit => True) (fun _ t => ∃ (q1 q2 q3 q4 q5 q6 q7 q8 : Nat) (cI : ClassId), va_P D vwCl [(h0, .inr (6, [.ref q1, .int 0, .ref q2, .int 0, .int 0, .int 0, .ref q3, .ref q4, .ref q5, .ref q6, .int 0, .int 0, .int 0, .ref q7, .ref q8, .int 0])), (q1, eA cI 670), (q2, eA cI 90), (q3, .inl (cI, 8, .inl mn8)), (q4, eA cI 8), (q5, eA cI 320), (q6, eA cI 40), (q7, eA cI 72), (q8, eA cI 16)] t.heap ∧ va_K D vwCl [(cI, .int)] t ∧ va_D (va_A [(h0, .inr (6, [.null, .int 0, .null, .int 0, .int 0, .int 0, .null, .null, .null, .null, .int 0, .int 0, .int 0, .null, .null, .int 0]))] sz) [(h0, .inr (6, [.ref q1, .int 0, .ref q2, .int 0, .int 0, .int 0, .ref q3, .ref q4, .ref q5, .ref q6, .int 0, .int 0, .int 0, .ref q7, .ref q8, .int 0])), (q1, eA cI 670), (q2, eA cI 90), (q3, .inl (cI, 8, .inl mn8)), (q4, eA cI 8), (q5, eA cI 320), (q6, eA cI 40), (q7, eA cI 72), (q8, eA cI 16)]) (va_A [(h0, .inr (6, [.null, .int 0, .null, .int 0, .int 0, .int 0, .null, .null, .null, .null, .int 0, .int 0, .int 0, .null, .null, .int 0]))] sz)) 8 1224 (va_A [(h0, .inr (6, [.null, .int 0, .null, .int 0, .int 0, .int 0, .null, .null, .null, .null, .int 0, .int 0, .int 0, .null, .null, .int 0]))] sz) := by
  refine Met.ofW (cc := cX6_init) (maxL := 2) (ret := none) (by decide) rfl ?_
  intro p e s m args below meth c s₁ B hml hv
  obtain ⟨rfl, hsz, hP, hK, hD0⟩ := hv
  have hx := B.exec
  have hb := B.bytes
  have hr := B.returns
  have hts := atoms_spec (ws := wsX6_init) B.pre
  have hown : s.vm.findClass RX6 = some m.cls := findClass_of_methodNamed B.named
  have hlocks := B.notSynchronized
  have hin : meth.name = "<init>" := (name_of_methodNamed B.named B.method).1
  subst hsz
  have hD := hD0.self (sz := s.heap.size)
  generalize hAe : va_A [(h0, .inr (6, [.null, .int 0, .null, .int 0, .int 0, .int 0, .null, .null, .null, .null, .int 0, .int 0, .int 0, .null, .null, .int 0]))] s.heap.size = A at hD ⊢
  have hA : ∀ q : Nat, s.heap.size ≤ q → A q := fun q h => by rw [← hAe]; exact Or.inr h
  have hS : va_S A s.heap s.heap [] := va_S.rf
  have hP : va_P D vwCl [(h0, .inr (6, [.null, .int 0, .null, .int 0, .int 0, .int 0, .null, .null, .null, .null, .int 0, .int 0, .int 0, .null, .null, .int 0]))] s.heap := hP
  have hl := lv_entry ([.ref h0]) (n := 2) (Nat.le_of_ble_eq_true rfl)
  rw [lg_entry_eq]
  generalize (lg_sl ([.ref h0]) ++ List.replicate (2 - (lg_sl ([.ref h0])).length) Slot.unset).toArray = ls at hl ⊢
  have hl : lv_has ls 2 [(0, .ref h0)] := hl
  have iX6 : ∀ w ∈ u_ws RX6 TX6 16, w ∈ wsX6_init := fun _ h => List.mem_cons_of_mem _ (List.mem_append_right _ h)
  refine lv_aload_n hx hb dX6_init_0 rfl (lv_at hl 0 rfl) ?_
  refine W.objInit hx hb hown (hts (.methodLink RX6 1 objectInit) (by decide +kernel)) (hts (.instanceMethod objectInit) (by decide +kernel)) (hts _ (List.mem_cons_of_mem _ (List.mem_append_left _ (List.mem_of_getElem? (i := 2) rfl)))) rfl (by rw [hml]; exact hl.1) rfl dX6_init_1 (Nat.le_of_ble_eq_true rfl) (Nat.le_of_ble_eq_true rfl) ?_
  refine W.eq (g2 := F0 m 4 ls []) rfl ?_
  refine lv_aload_n hx hb dX6_init_4 rfl (lv_at hl 0 rfl) ?_
  refine lv_sipush (v := 670) hx hb dX6_init_5 (by decide) ?_
  refine va_newa (atype := .int) (ty := .int) (n := 670) (N' := 670) (a0 := (670, .inl (fun _ => 0))) hx hb (hts (.arrayClass .int) (by decide +kernel)) rfl hK hP hD hS hA (fun cA => rfl) (by decide) (by decide) (by decide) (Nat.le_of_ble_eq_true rfl) (Nat.le_of_ble_eq_true rfl) dX6_init_8 (fun q1 cI H hK hP hD hS => ?_)
  have hK : va_K D vwCl [(cI, .int)] s := hK
  have hP : va_P D vwCl [(h0, .inr (6, [.null, .int 0, .null, .int 0, .int 0, .int 0, .null, .null, .null, .null, .int 0, .int 0, .int 0, .null, .null, .int 0])), (q1, eA cI 670)] H := hP
  have hD : va_D A [(h0, .inr (6, [.null, .int 0, .null, .int 0, .int 0, .int 0, .null, .null, .null, .null, .int 0, .int 0, .int 0, .null, .null, .int 0])), (q1, eA cI 670)] := hD
  refine W.widen (k := 1) (n := 670) (by omega) (by omega) ?_
  refine va_putF (D := D) (ci := 6) (v := .ref q1) (ty := .array .int) (C := RX6) (T := TX6) (N := 16) hx hb hts iX6 tyX6 tyX6_ok nmX6 hown hK hP hD hS 0 rfl rfl 0 (by decide) (hts (.fieldLink RX6 7 "PulpitRoadsModel" "w" "[I") (by decide +kernel)) (fun _ h9 => h9) rfl hin rfl (by decide +kernel) rfl rfl (Nat.le_of_ble_eq_true rfl) dX6_init_10 (fun H locs hP hD hS => ?_)
  have hP : va_P D vwCl [(h0, .inr (6, [.ref q1, .int 0, .null, .int 0, .int 0, .int 0, .null, .null, .null, .null, .int 0, .int 0, .int 0, .null, .null, .int 0])), (q1, eA cI 670)] H := hP
  have hD : va_D A [(h0, .inr (6, [.ref q1, .int 0, .null, .int 0, .int 0, .int 0, .null, .null, .null, .null, .int 0, .int 0, .int 0, .null, .null, .int 0])), (q1, eA cI 670)] := hD
  refine lv_aload_n hx hb dX6_init_13 rfl (lv_at hl 0 rfl) ?_
  refine lv_bipush (v := 90) hx hb dX6_init_14 (by decide) ?_
  refine va_newa (atype := .int) (ty := .int) (n := 90) (N' := 90) (a0 := (90, .inl (fun _ => 0))) hx hb (hts (.arrayClass .int) (by decide +kernel)) rfl hK hP hD hS hA (fun cA => rfl) (by decide) (by decide) (by decide) (Nat.le_of_ble_eq_true rfl) (Nat.le_of_ble_eq_true rfl) dX6_init_16 (fun q2 cA H hK hP hD hS => ?_)
  obtain rfl := ty_one hK 0 1 rfl rfl
  have hK := hK.sub (tys' := [(cI, .int)]) [0] rfl
  have hP : va_P D vwCl [(h0, .inr (6, [.ref q1, .int 0, .null, .int 0, .int 0, .int 0, .null, .null, .null, .null, .int 0, .int 0, .int 0, .null, .null, .int 0])), (q1, eA cI 670), (q2, eA cI 90)] H := hP
  have hD : va_D A [(h0, .inr (6, [.ref q1, .int 0, .null, .int 0, .int 0, .int 0, .null, .null, .null, .null, .int 0, .int 0, .int 0, .null, .null, .int 0])), (q1, eA cI 670), (q2, eA cI 90)] := hD
  refine W.widen (k := 2) (n := 760) (by omega) (by omega) ?_
  refine va_putF (D := D) (ci := 6) (v := .ref q2) (ty := .array .int) (C := RX6) (T := TX6) (N := 16) hx hb hts iX6 tyX6 tyX6_ok nmX6 hown hK hP hD hS 0 rfl rfl 2 (by decide) (hts (.fieldLink RX6 13 "PulpitRoadsModel" "tape" "[I") (by decide +kernel)) (fun _ h9 => h9) rfl hin rfl (by decide +kernel) rfl rfl (Nat.le_of_ble_eq_true rfl) dX6_init_18 (fun H locs hP hD hS => ?_)
  have hP : va_P D vwCl [(h0, .inr (6, [.ref q1, .int 0, .ref q2, .int 0, .int 0, .int 0, .null, .null, .null, .null, .int 0, .int 0, .int 0, .null, .null, .int 0])), (q1, eA cI 670), (q2, eA cI 90)] H := hP
  have hD : va_D A [(h0, .inr (6, [.ref q1, .int 0, .ref q2, .int 0, .int 0, .int 0, .null, .null, .null, .null, .int 0, .int 0, .int 0, .null, .null, .int 0])), (q1, eA cI 670), (q2, eA cI 90)] := hD
  refine lv_aload_n hx hb dX6_init_21 rfl (lv_at hl 0 rfl) ?_
  refine lv_bipush (v := 8) hx hb dX6_init_22 (by decide) ?_
  refine va_newa (atype := .int) (ty := .int) (n := 8) (N' := 8) (a0 := (8, .inl (fun _ => 0))) hx hb (hts (.arrayClass .int) (by decide +kernel)) rfl hK hP hD hS hA (fun cA => rfl) (by decide) (by decide) (by decide) (Nat.le_of_ble_eq_true rfl) (Nat.le_of_ble_eq_true rfl) dX6_init_24 (fun q3 cA H hK hP hD hS => ?_)
  obtain rfl := ty_one hK 0 1 rfl rfl
  have hK := hK.sub (tys' := [(cI, .int)]) [0] rfl
  have hP : va_P D vwCl [(h0, .inr (6, [.ref q1, .int 0, .ref q2, .int 0, .int 0, .int 0, .null, .null, .null, .null, .int 0, .int 0, .int 0, .null, .null, .int 0])), (q1, eA cI 670), (q2, eA cI 90), (q3, eA cI 8)] H := hP
  have hD : va_D A [(h0, .inr (6, [.ref q1, .int 0, .ref q2, .int 0, .int 0, .int 0, .null, .null, .null, .null, .int 0, .int 0, .int 0, .null, .null, .int 0])), (q1, eA cI 670), (q2, eA cI 90), (q3, eA cI 8)] := hD
  refine W.widen (k := 3) (n := 768) (by omega) (by omega) ?_
  refine va_putF (D := D) (ci := 6) (v := .ref q3) (ty := .array .int) (C := RX6) (T := TX6) (N := 16) hx hb hts iX6 tyX6 tyX6_ok nmX6 hown hK hP hD hS 0 rfl rfl 6 (by decide) (hts (.fieldLink RX6 16 "PulpitRoadsModel" "many" "[I") (by decide +kernel)) (fun _ h9 => h9) rfl hin rfl (by decide +kernel) rfl rfl (Nat.le_of_ble_eq_true rfl) dX6_init_26 (fun H locs hP hD hS => ?_)
  have hP : va_P D vwCl [(h0, .inr (6, [.ref q1, .int 0, .ref q2, .int 0, .int 0, .int 0, .ref q3, .null, .null, .null, .int 0, .int 0, .int 0, .null, .null, .int 0])), (q1, eA cI 670), (q2, eA cI 90), (q3, eA cI 8)] H := hP
  have hD : va_D A [(h0, .inr (6, [.ref q1, .int 0, .ref q2, .int 0, .int 0, .int 0, .ref q3, .null, .null, .null, .int 0, .int 0, .int 0, .null, .null, .int 0])), (q1, eA cI 670), (q2, eA cI 90), (q3, eA cI 8)] := hD
  refine lv_aload_n hx hb dX6_init_29 rfl (lv_at hl 0 rfl) ?_
  refine lv_bipush (v := 8) hx hb dX6_init_30 (by decide) ?_
  refine va_newa (atype := .int) (ty := .int) (n := 8) (N' := 8) (a0 := (8, .inl (fun _ => 0))) hx hb (hts (.arrayClass .int) (by decide +kernel)) rfl hK hP hD hS hA (fun cA => rfl) (by decide) (by decide) (by decide) (Nat.le_of_ble_eq_true rfl) (Nat.le_of_ble_eq_true rfl) dX6_init_32 (fun q4 cA H hK hP hD hS => ?_)
  obtain rfl := ty_one hK 0 1 rfl rfl
  have hK := hK.sub (tys' := [(cI, .int)]) [0] rfl
  have hP : va_P D vwCl [(h0, .inr (6, [.ref q1, .int 0, .ref q2, .int 0, .int 0, .int 0, .ref q3, .null, .null, .null, .int 0, .int 0, .int 0, .null, .null, .int 0])), (q1, eA cI 670), (q2, eA cI 90), (q3, eA cI 8), (q4, eA cI 8)] H := hP
  have hD : va_D A [(h0, .inr (6, [.ref q1, .int 0, .ref q2, .int 0, .int 0, .int 0, .ref q3, .null, .null, .null, .int 0, .int 0, .int 0, .null, .null, .int 0])), (q1, eA cI 670), (q2, eA cI 90), (q3, eA cI 8), (q4, eA cI 8)] := hD
  refine W.widen (k := 4) (n := 776) (by omega) (by omega) ?_
  refine va_putF (D := D) (ci := 6) (v := .ref q4) (ty := .array .int) (C := RX6) (T := TX6) (N := 16) hx hb hts iX6 tyX6 tyX6_ok nmX6 hown hK hP hD hS 0 rfl rfl 7 (by decide) (hts (.fieldLink RX6 19 "PulpitRoadsModel" "lane" "[I") (by decide +kernel)) (fun _ h9 => h9) rfl hin rfl (by decide +kernel) rfl rfl (Nat.le_of_ble_eq_true rfl) dX6_init_34 (fun H locs hP hD hS => ?_)
  have hP : va_P D vwCl [(h0, .inr (6, [.ref q1, .int 0, .ref q2, .int 0, .int 0, .int 0, .ref q3, .ref q4, .null, .null, .int 0, .int 0, .int 0, .null, .null, .int 0])), (q1, eA cI 670), (q2, eA cI 90), (q3, eA cI 8), (q4, eA cI 8)] H := hP
  have hD : va_D A [(h0, .inr (6, [.ref q1, .int 0, .ref q2, .int 0, .int 0, .int 0, .ref q3, .ref q4, .null, .null, .int 0, .int 0, .int 0, .null, .null, .int 0])), (q1, eA cI 670), (q2, eA cI 90), (q3, eA cI 8), (q4, eA cI 8)] := hD
  refine lv_aload_n hx hb dX6_init_37 rfl (lv_at hl 0 rfl) ?_
  refine lv_sipush (v := 320) hx hb dX6_init_38 (by decide) ?_
  refine va_newa (atype := .int) (ty := .int) (n := 320) (N' := 320) (a0 := (320, .inl (fun _ => 0))) hx hb (hts (.arrayClass .int) (by decide +kernel)) rfl hK hP hD hS hA (fun cA => rfl) (by decide) (by decide) (by decide) (Nat.le_of_ble_eq_true rfl) (Nat.le_of_ble_eq_true rfl) dX6_init_41 (fun q5 cA H hK hP hD hS => ?_)
  obtain rfl := ty_one hK 0 1 rfl rfl
  have hK := hK.sub (tys' := [(cI, .int)]) [0] rfl
  have hP : va_P D vwCl [(h0, .inr (6, [.ref q1, .int 0, .ref q2, .int 0, .int 0, .int 0, .ref q3, .ref q4, .null, .null, .int 0, .int 0, .int 0, .null, .null, .int 0])), (q1, eA cI 670), (q2, eA cI 90), (q3, eA cI 8), (q4, eA cI 8), (q5, eA cI 320)] H := hP
  have hD : va_D A [(h0, .inr (6, [.ref q1, .int 0, .ref q2, .int 0, .int 0, .int 0, .ref q3, .ref q4, .null, .null, .int 0, .int 0, .int 0, .null, .null, .int 0])), (q1, eA cI 670), (q2, eA cI 90), (q3, eA cI 8), (q4, eA cI 8), (q5, eA cI 320)] := hD
  refine W.widen (k := 5) (n := 1096) (by omega) (by omega) ?_
  refine va_putF (D := D) (ci := 6) (v := .ref q5) (ty := .array .int) (C := RX6) (T := TX6) (N := 16) hx hb hts iX6 tyX6 tyX6_ok nmX6 hown hK hP hD hS 0 rfl rfl 8 (by decide) (hts (.fieldLink RX6 22 "PulpitRoadsModel" "items" "[I") (by decide +kernel)) (fun _ h9 => h9) rfl hin rfl (by decide +kernel) rfl rfl (Nat.le_of_ble_eq_true rfl) dX6_init_43 (fun H locs hP hD hS => ?_)
  have hP : va_P D vwCl [(h0, .inr (6, [.ref q1, .int 0, .ref q2, .int 0, .int 0, .int 0, .ref q3, .ref q4, .ref q5, .null, .int 0, .int 0, .int 0, .null, .null, .int 0])), (q1, eA cI 670), (q2, eA cI 90), (q3, eA cI 8), (q4, eA cI 8), (q5, eA cI 320)] H := hP
  have hD : va_D A [(h0, .inr (6, [.ref q1, .int 0, .ref q2, .int 0, .int 0, .int 0, .ref q3, .ref q4, .ref q5, .null, .int 0, .int 0, .int 0, .null, .null, .int 0])), (q1, eA cI 670), (q2, eA cI 90), (q3, eA cI 8), (q4, eA cI 8), (q5, eA cI 320)] := hD
  refine lv_aload_n hx hb dX6_init_46 rfl (lv_at hl 0 rfl) ?_
  refine lv_bipush (v := 40) hx hb dX6_init_47 (by decide) ?_
  refine va_newa (atype := .int) (ty := .int) (n := 40) (N' := 40) (a0 := (40, .inl (fun _ => 0))) hx hb (hts (.arrayClass .int) (by decide +kernel)) rfl hK hP hD hS hA (fun cA => rfl) (by decide) (by decide) (by decide) (Nat.le_of_ble_eq_true rfl) (Nat.le_of_ble_eq_true rfl) dX6_init_49 (fun q6 cA H hK hP hD hS => ?_)
  obtain rfl := ty_one hK 0 1 rfl rfl
  have hK := hK.sub (tys' := [(cI, .int)]) [0] rfl
  have hP : va_P D vwCl [(h0, .inr (6, [.ref q1, .int 0, .ref q2, .int 0, .int 0, .int 0, .ref q3, .ref q4, .ref q5, .null, .int 0, .int 0, .int 0, .null, .null, .int 0])), (q1, eA cI 670), (q2, eA cI 90), (q3, eA cI 8), (q4, eA cI 8), (q5, eA cI 320), (q6, eA cI 40)] H := hP
  have hD : va_D A [(h0, .inr (6, [.ref q1, .int 0, .ref q2, .int 0, .int 0, .int 0, .ref q3, .ref q4, .ref q5, .null, .int 0, .int 0, .int 0, .null, .null, .int 0])), (q1, eA cI 670), (q2, eA cI 90), (q3, eA cI 8), (q4, eA cI 8), (q5, eA cI 320), (q6, eA cI 40)] := hD
  refine W.widen (k := 6) (n := 1136) (by omega) (by omega) ?_
  refine va_putF (D := D) (ci := 6) (v := .ref q6) (ty := .array .int) (C := RX6) (T := TX6) (N := 16) hx hb hts iX6 tyX6 tyX6_ok nmX6 hown hK hP hD hS 0 rfl rfl 9 (by decide) (hts (.fieldLink RX6 25 "PulpitRoadsModel" "held" "[I") (by decide +kernel)) (fun _ h9 => h9) rfl hin rfl (by decide +kernel) rfl rfl (Nat.le_of_ble_eq_true rfl) dX6_init_51 (fun H locs hP hD hS => ?_)
  have hP : va_P D vwCl [(h0, .inr (6, [.ref q1, .int 0, .ref q2, .int 0, .int 0, .int 0, .ref q3, .ref q4, .ref q5, .ref q6, .int 0, .int 0, .int 0, .null, .null, .int 0])), (q1, eA cI 670), (q2, eA cI 90), (q3, eA cI 8), (q4, eA cI 8), (q5, eA cI 320), (q6, eA cI 40)] H := hP
  have hD : va_D A [(h0, .inr (6, [.ref q1, .int 0, .ref q2, .int 0, .int 0, .int 0, .ref q3, .ref q4, .ref q5, .ref q6, .int 0, .int 0, .int 0, .null, .null, .int 0])), (q1, eA cI 670), (q2, eA cI 90), (q3, eA cI 8), (q4, eA cI 8), (q5, eA cI 320), (q6, eA cI 40)] := hD
  refine lv_aload_n hx hb dX6_init_54 rfl (lv_at hl 0 rfl) ?_
  refine lv_bipush (v := 72) hx hb dX6_init_55 (by decide) ?_
  refine va_newa (atype := .int) (ty := .int) (n := 72) (N' := 72) (a0 := (72, .inl (fun _ => 0))) hx hb (hts (.arrayClass .int) (by decide +kernel)) rfl hK hP hD hS hA (fun cA => rfl) (by decide) (by decide) (by decide) (Nat.le_of_ble_eq_true rfl) (Nat.le_of_ble_eq_true rfl) dX6_init_57 (fun q7 cA H hK hP hD hS => ?_)
  obtain rfl := ty_one hK 0 1 rfl rfl
  have hK := hK.sub (tys' := [(cI, .int)]) [0] rfl
  have hP : va_P D vwCl [(h0, .inr (6, [.ref q1, .int 0, .ref q2, .int 0, .int 0, .int 0, .ref q3, .ref q4, .ref q5, .ref q6, .int 0, .int 0, .int 0, .null, .null, .int 0])), (q1, eA cI 670), (q2, eA cI 90), (q3, eA cI 8), (q4, eA cI 8), (q5, eA cI 320), (q6, eA cI 40), (q7, eA cI 72)] H := hP
  have hD : va_D A [(h0, .inr (6, [.ref q1, .int 0, .ref q2, .int 0, .int 0, .int 0, .ref q3, .ref q4, .ref q5, .ref q6, .int 0, .int 0, .int 0, .null, .null, .int 0])), (q1, eA cI 670), (q2, eA cI 90), (q3, eA cI 8), (q4, eA cI 8), (q5, eA cI 320), (q6, eA cI 40), (q7, eA cI 72)] := hD
  refine W.widen (k := 7) (n := 1208) (by omega) (by omega) ?_
  refine va_putF (D := D) (ci := 6) (v := .ref q7) (ty := .array .int) (C := RX6) (T := TX6) (N := 16) hx hb hts iX6 tyX6 tyX6_ok nmX6 hown hK hP hD hS 0 rfl rfl 13 (by decide) (hts (.fieldLink RX6 28 "PulpitRoadsModel" "said" "[I") (by decide +kernel)) (fun _ h9 => h9) rfl hin rfl (by decide +kernel) rfl rfl (Nat.le_of_ble_eq_true rfl) dX6_init_59 (fun H locs hP hD hS => ?_)
  have hP : va_P D vwCl [(h0, .inr (6, [.ref q1, .int 0, .ref q2, .int 0, .int 0, .int 0, .ref q3, .ref q4, .ref q5, .ref q6, .int 0, .int 0, .int 0, .ref q7, .null, .int 0])), (q1, eA cI 670), (q2, eA cI 90), (q3, eA cI 8), (q4, eA cI 8), (q5, eA cI 320), (q6, eA cI 40), (q7, eA cI 72)] H := hP
  have hD : va_D A [(h0, .inr (6, [.ref q1, .int 0, .ref q2, .int 0, .int 0, .int 0, .ref q3, .ref q4, .ref q5, .ref q6, .int 0, .int 0, .int 0, .ref q7, .null, .int 0])), (q1, eA cI 670), (q2, eA cI 90), (q3, eA cI 8), (q4, eA cI 8), (q5, eA cI 320), (q6, eA cI 40), (q7, eA cI 72)] := hD
  refine lv_aload_n hx hb dX6_init_62 rfl (lv_at hl 0 rfl) ?_
  refine lv_bipush (v := 16) hx hb dX6_init_63 (by decide) ?_
  refine va_newa (atype := .int) (ty := .int) (n := 16) (N' := 16) (a0 := (16, .inl (fun _ => 0))) hx hb (hts (.arrayClass .int) (by decide +kernel)) rfl hK hP hD hS hA (fun cA => rfl) (by decide) (by decide) (by decide) (Nat.le_of_ble_eq_true rfl) (Nat.le_of_ble_eq_true rfl) dX6_init_65 (fun q8 cA H hK hP hD hS => ?_)
  obtain rfl := ty_one hK 0 1 rfl rfl
  have hK := hK.sub (tys' := [(cI, .int)]) [0] rfl
  have hP : va_P D vwCl [(h0, .inr (6, [.ref q1, .int 0, .ref q2, .int 0, .int 0, .int 0, .ref q3, .ref q4, .ref q5, .ref q6, .int 0, .int 0, .int 0, .ref q7, .null, .int 0])), (q1, eA cI 670), (q2, eA cI 90), (q3, eA cI 8), (q4, eA cI 8), (q5, eA cI 320), (q6, eA cI 40), (q7, eA cI 72), (q8, eA cI 16)] H := hP
  have hD : va_D A [(h0, .inr (6, [.ref q1, .int 0, .ref q2, .int 0, .int 0, .int 0, .ref q3, .ref q4, .ref q5, .ref q6, .int 0, .int 0, .int 0, .ref q7, .null, .int 0])), (q1, eA cI 670), (q2, eA cI 90), (q3, eA cI 8), (q4, eA cI 8), (q5, eA cI 320), (q6, eA cI 40), (q7, eA cI 72), (q8, eA cI 16)] := hD
  refine W.widen (k := 8) (n := 1224) (by omega) (by omega) ?_
  refine va_putF (D := D) (ci := 6) (v := .ref q8) (ty := .array .int) (C := RX6) (T := TX6) (N := 16) hx hb hts iX6 tyX6 tyX6_ok nmX6 hown hK hP hD hS 0 rfl rfl 14 (by decide) (hts (.fieldLink RX6 31 "PulpitRoadsModel" "trace" "[I") (by decide +kernel)) (fun _ h9 => h9) rfl hin rfl (by decide +kernel) rfl rfl (Nat.le_of_ble_eq_true rfl) dX6_init_67 (fun H locs hP hD hS => ?_)
  have hP : va_P D vwCl [(h0, .inr (6, [.ref q1, .int 0, .ref q2, .int 0, .int 0, .int 0, .ref q3, .ref q4, .ref q5, .ref q6, .int 0, .int 0, .int 0, .ref q7, .ref q8, .int 0])), (q1, eA cI 670), (q2, eA cI 90), (q3, eA cI 8), (q4, eA cI 8), (q5, eA cI 320), (q6, eA cI 40), (q7, eA cI 72), (q8, eA cI 16)] H := hP
  have hD : va_D A [(h0, .inr (6, [.ref q1, .int 0, .ref q2, .int 0, .int 0, .int 0, .ref q3, .ref q4, .ref q5, .ref q6, .int 0, .int 0, .int 0, .ref q7, .ref q8, .int 0])), (q1, eA cI 670), (q2, eA cI 90), (q3, eA cI 8), (q4, eA cI 8), (q5, eA cI 320), (q6, eA cI 40), (q7, eA cI 72), (q8, eA cI 16)] := hD
  refine lv_iconst (v := 0) hx hb dX6_init_70 (by decide) ?_
  refine lv_istore_n (lv' := [(1, .int 0), (0, .ref h0)]) hx hb dX6_init_71 rfl hl (by decide) rfl (fun ls hl => ?_)
  refine lv_iload_n hx hb dX6_init_72 rfl (lv_at hl 0 rfl) ?_
  refine lv_bipush (v := 8) hx hb dX6_init_73 (by decide) ?_
  refine lv_icmp_ge (tgt := 91) hx hb dX6_init_75 (by decide) (fun c9 => absurd c9 (by decide)) (fun _ => ?_)
  refine lv_aload_n hx hb dX6_init_78 rfl (lv_at hl 1 rfl) ?_
  refine va_get (D := D) (ci := 6) (v := .ref q3) (C := RX6) (T := TX6) (N := 16) hx hb hts iX6 hown hK hP 0 rfl rfl 6 (by decide) (hts (.fieldLink RX6 16 "PulpitRoadsModel" "many" "[I") (by decide +kernel)) (fun _ h9 => h9) rfl dX6_init_79 ?_
  refine lv_iload_n hx hb dX6_init_82 rfl (lv_at hl 0 rfl) ?_
  refine lv_iconst (v := -1) hx hb dX6_init_83 (by decide) ?_
  refine va_iast hx hb hK hP hD hS 3 0 rfl rfl (by unfold vp_in; decide) dX6_init_84 (fun H locs hP hD hS => ?_)
  have hP : va_P D vwCl [(h0, .inr (6, [.ref q1, .int 0, .ref q2, .int 0, .int 0, .int 0, .ref q3, .ref q4, .ref q5, .ref q6, .int 0, .int 0, .int 0, .ref q7, .ref q8, .int 0])), (q1, eA cI 670), (q2, eA cI 90), (q3, .inl (cI, 8, .inl (upd (fun _ => 0) 0 (-1)))), (q4, eA cI 8), (q5, eA cI 320), (q6, eA cI 40), (q7, eA cI 72), (q8, eA cI 16)] H := hP
  have hD : va_D A [(h0, .inr (6, [.ref q1, .int 0, .ref q2, .int 0, .int 0, .int 0, .ref q3, .ref q4, .ref q5, .ref q6, .int 0, .int 0, .int 0, .ref q7, .ref q8, .int 0])), (q1, eA cI 670), (q2, eA cI 90), (q3, .inl (cI, 8, .inl (upd (fun _ => 0) 0 (-1)))), (q4, eA cI 8), (q5, eA cI 320), (q6, eA cI 40), (q7, eA cI 72), (q8, eA cI 16)] := hD
  refine lv_iinc (v := 1) (lv' := [(1, .int 1), (0, .ref h0)]) hx hb dX6_init_85 hl (k := 0) rfl (by decide) (by decide) rfl (fun ls hl => ?_)
  refine lv_goto (tgt := 72) hx hb dX6_init_88 (by decide) ?_
  refine lv_iload_n hx hb dX6_init_72 rfl (lv_at hl 0 rfl) ?_
  refine lv_bipush (v := 8) hx hb dX6_init_73 (by decide) ?_
  refine lv_icmp_ge (tgt := 91) hx hb dX6_init_75 (by decide) (fun c9 => absurd c9 (by decide)) (fun _ => ?_)
  refine lv_aload_n hx hb dX6_init_78 rfl (lv_at hl 1 rfl) ?_
  refine va_get (D := D) (ci := 6) (v := .ref q3) (C := RX6) (T := TX6) (N := 16) hx hb hts iX6 hown hK hP 0 rfl rfl 6 (by decide) (hts (.fieldLink RX6 16 "PulpitRoadsModel" "many" "[I") (by decide +kernel)) (fun _ h9 => h9) rfl dX6_init_79 ?_
  refine lv_iload_n hx hb dX6_init_82 rfl (lv_at hl 0 rfl) ?_
  refine lv_iconst (v := -1) hx hb dX6_init_83 (by decide) ?_
  refine va_iast hx hb hK hP hD hS 3 0 rfl rfl (by unfold vp_in; decide) dX6_init_84 (fun H locs hP hD hS => ?_)
  have hP : va_P D vwCl [(h0, .inr (6, [.ref q1, .int 0, .ref q2, .int 0, .int 0, .int 0, .ref q3, .ref q4, .ref q5, .ref q6, .int 0, .int 0, .int 0, .ref q7, .ref q8, .int 0])), (q1, eA cI 670), (q2, eA cI 90), (q3, .inl (cI, 8, .inl (upd (upd (fun _ => 0) 0 (-1)) 1 (-1)))), (q4, eA cI 8), (q5, eA cI 320), (q6, eA cI 40), (q7, eA cI 72), (q8, eA cI 16)] H := hP
  have hD : va_D A [(h0, .inr (6, [.ref q1, .int 0, .ref q2, .int 0, .int 0, .int 0, .ref q3, .ref q4, .ref q5, .ref q6, .int 0, .int 0, .int 0, .ref q7, .ref q8, .int 0])), (q1, eA cI 670), (q2, eA cI 90), (q3, .inl (cI, 8, .inl (upd (upd (fun _ => 0) 0 (-1)) 1 (-1)))), (q4, eA cI 8), (q5, eA cI 320), (q6, eA cI 40), (q7, eA cI 72), (q8, eA cI 16)] := hD
  refine lv_iinc (v := 2) (lv' := [(1, .int 2), (0, .ref h0)]) hx hb dX6_init_85 hl (k := 0) rfl (by decide) (by decide) rfl (fun ls hl => ?_)
  refine lv_goto (tgt := 72) hx hb dX6_init_88 (by decide) ?_
  refine lv_iload_n hx hb dX6_init_72 rfl (lv_at hl 0 rfl) ?_
  refine lv_bipush (v := 8) hx hb dX6_init_73 (by decide) ?_
  refine lv_icmp_ge (tgt := 91) hx hb dX6_init_75 (by decide) (fun c9 => absurd c9 (by decide)) (fun _ => ?_)
  refine lv_aload_n hx hb dX6_init_78 rfl (lv_at hl 1 rfl) ?_
  refine va_get (D := D) (ci := 6) (v := .ref q3) (C := RX6) (T := TX6) (N := 16) hx hb hts iX6 hown hK hP 0 rfl rfl 6 (by decide) (hts (.fieldLink RX6 16 "PulpitRoadsModel" "many" "[I") (by decide +kernel)) (fun _ h9 => h9) rfl dX6_init_79 ?_
  refine lv_iload_n hx hb dX6_init_82 rfl (lv_at hl 0 rfl) ?_
  refine lv_iconst (v := -1) hx hb dX6_init_83 (by decide) ?_
  refine va_iast hx hb hK hP hD hS 3 0 rfl rfl (by unfold vp_in; decide) dX6_init_84 (fun H locs hP hD hS => ?_)
  have hP : va_P D vwCl [(h0, .inr (6, [.ref q1, .int 0, .ref q2, .int 0, .int 0, .int 0, .ref q3, .ref q4, .ref q5, .ref q6, .int 0, .int 0, .int 0, .ref q7, .ref q8, .int 0])), (q1, eA cI 670), (q2, eA cI 90), (q3, .inl (cI, 8, .inl (upd (upd (upd (fun _ => 0) 0 (-1)) 1 (-1)) 2 (-1)))), (q4, eA cI 8), (q5, eA cI 320), (q6, eA cI 40), (q7, eA cI 72), (q8, eA cI 16)] H := hP
  have hD : va_D A [(h0, .inr (6, [.ref q1, .int 0, .ref q2, .int 0, .int 0, .int 0, .ref q3, .ref q4, .ref q5, .ref q6, .int 0, .int 0, .int 0, .ref q7, .ref q8, .int 0])), (q1, eA cI 670), (q2, eA cI 90), (q3, .inl (cI, 8, .inl (upd (upd (upd (fun _ => 0) 0 (-1)) 1 (-1)) 2 (-1)))), (q4, eA cI 8), (q5, eA cI 320), (q6, eA cI 40), (q7, eA cI 72), (q8, eA cI 16)] := hD
  refine lv_iinc (v := 3) (lv' := [(1, .int 3), (0, .ref h0)]) hx hb dX6_init_85 hl (k := 0) rfl (by decide) (by decide) rfl (fun ls hl => ?_)
  refine lv_goto (tgt := 72) hx hb dX6_init_88 (by decide) ?_
  refine lv_iload_n hx hb dX6_init_72 rfl (lv_at hl 0 rfl) ?_
  refine lv_bipush (v := 8) hx hb dX6_init_73 (by decide) ?_
  refine lv_icmp_ge (tgt := 91) hx hb dX6_init_75 (by decide) (fun c9 => absurd c9 (by decide)) (fun _ => ?_)
  refine lv_aload_n hx hb dX6_init_78 rfl (lv_at hl 1 rfl) ?_
  refine va_get (D := D) (ci := 6) (v := .ref q3) (C := RX6) (T := TX6) (N := 16) hx hb hts iX6 hown hK hP 0 rfl rfl 6 (by decide) (hts (.fieldLink RX6 16 "PulpitRoadsModel" "many" "[I") (by decide +kernel)) (fun _ h9 => h9) rfl dX6_init_79 ?_
  refine lv_iload_n hx hb dX6_init_82 rfl (lv_at hl 0 rfl) ?_
  refine lv_iconst (v := -1) hx hb dX6_init_83 (by decide) ?_
  refine va_iast hx hb hK hP hD hS 3 0 rfl rfl (by unfold vp_in; decide) dX6_init_84 (fun H locs hP hD hS => ?_)
  have hP : va_P D vwCl [(h0, .inr (6, [.ref q1, .int 0, .ref q2, .int 0, .int 0, .int 0, .ref q3, .ref q4, .ref q5, .ref q6, .int 0, .int 0, .int 0, .ref q7, .ref q8, .int 0])), (q1, eA cI 670), (q2, eA cI 90), (q3, .inl (cI, 8, .inl (upd (upd (upd (upd (fun _ => 0) 0 (-1)) 1 (-1)) 2 (-1)) 3 (-1)))), (q4, eA cI 8), (q5, eA cI 320), (q6, eA cI 40), (q7, eA cI 72), (q8, eA cI 16)] H := hP
  have hD : va_D A [(h0, .inr (6, [.ref q1, .int 0, .ref q2, .int 0, .int 0, .int 0, .ref q3, .ref q4, .ref q5, .ref q6, .int 0, .int 0, .int 0, .ref q7, .ref q8, .int 0])), (q1, eA cI 670), (q2, eA cI 90), (q3, .inl (cI, 8, .inl (upd (upd (upd (upd (fun _ => 0) 0 (-1)) 1 (-1)) 2 (-1)) 3 (-1)))), (q4, eA cI 8), (q5, eA cI 320), (q6, eA cI 40), (q7, eA cI 72), (q8, eA cI 16)] := hD
  refine lv_iinc (v := 4) (lv' := [(1, .int 4), (0, .ref h0)]) hx hb dX6_init_85 hl (k := 0) rfl (by decide) (by decide) rfl (fun ls hl => ?_)
  refine lv_goto (tgt := 72) hx hb dX6_init_88 (by decide) ?_
  refine lv_iload_n hx hb dX6_init_72 rfl (lv_at hl 0 rfl) ?_
  refine lv_bipush (v := 8) hx hb dX6_init_73 (by decide) ?_
  refine lv_icmp_ge (tgt := 91) hx hb dX6_init_75 (by decide) (fun c9 => absurd c9 (by decide)) (fun _ => ?_)
  refine lv_aload_n hx hb dX6_init_78 rfl (lv_at hl 1 rfl) ?_
  refine va_get (D := D) (ci := 6) (v := .ref q3) (C := RX6) (T := TX6) (N := 16) hx hb hts iX6 hown hK hP 0 rfl rfl 6 (by decide) (hts (.fieldLink RX6 16 "PulpitRoadsModel" "many" "[I") (by decide +kernel)) (fun _ h9 => h9) rfl dX6_init_79 ?_
  refine lv_iload_n hx hb dX6_init_82 rfl (lv_at hl 0 rfl) ?_
  refine lv_iconst (v := -1) hx hb dX6_init_83 (by decide) ?_
  refine va_iast hx hb hK hP hD hS 3 0 rfl rfl (by unfold vp_in; decide) dX6_init_84 (fun H locs hP hD hS => ?_)
  have hP : va_P D vwCl [(h0, .inr (6, [.ref q1, .int 0, .ref q2, .int 0, .int 0, .int 0, .ref q3, .ref q4, .ref q5, .ref q6, .int 0, .int 0, .int 0, .ref q7, .ref q8, .int 0])), (q1, eA cI 670), (q2, eA cI 90), (q3, .inl (cI, 8, .inl (upd (upd (upd (upd (upd (fun _ => 0) 0 (-1)) 1 (-1)) 2 (-1)) 3 (-1)) 4 (-1)))), (q4, eA cI 8), (q5, eA cI 320), (q6, eA cI 40), (q7, eA cI 72), (q8, eA cI 16)] H := hP
  have hD : va_D A [(h0, .inr (6, [.ref q1, .int 0, .ref q2, .int 0, .int 0, .int 0, .ref q3, .ref q4, .ref q5, .ref q6, .int 0, .int 0, .int 0, .ref q7, .ref q8, .int 0])), (q1, eA cI 670), (q2, eA cI 90), (q3, .inl (cI, 8, .inl (upd (upd (upd (upd (upd (fun _ => 0) 0 (-1)) 1 (-1)) 2 (-1)) 3 (-1)) 4 (-1)))), (q4, eA cI 8), (q5, eA cI 320), (q6, eA cI 40), (q7, eA cI 72), (q8, eA cI 16)] := hD
  refine lv_iinc (v := 5) (lv' := [(1, .int 5), (0, .ref h0)]) hx hb dX6_init_85 hl (k := 0) rfl (by decide) (by decide) rfl (fun ls hl => ?_)
  refine lv_goto (tgt := 72) hx hb dX6_init_88 (by decide) ?_
  refine lv_iload_n hx hb dX6_init_72 rfl (lv_at hl 0 rfl) ?_
  refine lv_bipush (v := 8) hx hb dX6_init_73 (by decide) ?_
  refine lv_icmp_ge (tgt := 91) hx hb dX6_init_75 (by decide) (fun c9 => absurd c9 (by decide)) (fun _ => ?_)
  refine lv_aload_n hx hb dX6_init_78 rfl (lv_at hl 1 rfl) ?_
  refine va_get (D := D) (ci := 6) (v := .ref q3) (C := RX6) (T := TX6) (N := 16) hx hb hts iX6 hown hK hP 0 rfl rfl 6 (by decide) (hts (.fieldLink RX6 16 "PulpitRoadsModel" "many" "[I") (by decide +kernel)) (fun _ h9 => h9) rfl dX6_init_79 ?_
  refine lv_iload_n hx hb dX6_init_82 rfl (lv_at hl 0 rfl) ?_
  refine lv_iconst (v := -1) hx hb dX6_init_83 (by decide) ?_
  refine va_iast hx hb hK hP hD hS 3 0 rfl rfl (by unfold vp_in; decide) dX6_init_84 (fun H locs hP hD hS => ?_)
  have hP : va_P D vwCl [(h0, .inr (6, [.ref q1, .int 0, .ref q2, .int 0, .int 0, .int 0, .ref q3, .ref q4, .ref q5, .ref q6, .int 0, .int 0, .int 0, .ref q7, .ref q8, .int 0])), (q1, eA cI 670), (q2, eA cI 90), (q3, .inl (cI, 8, .inl (upd (upd (upd (upd (upd (upd (fun _ => 0) 0 (-1)) 1 (-1)) 2 (-1)) 3 (-1)) 4 (-1)) 5 (-1)))), (q4, eA cI 8), (q5, eA cI 320), (q6, eA cI 40), (q7, eA cI 72), (q8, eA cI 16)] H := hP
  have hD : va_D A [(h0, .inr (6, [.ref q1, .int 0, .ref q2, .int 0, .int 0, .int 0, .ref q3, .ref q4, .ref q5, .ref q6, .int 0, .int 0, .int 0, .ref q7, .ref q8, .int 0])), (q1, eA cI 670), (q2, eA cI 90), (q3, .inl (cI, 8, .inl (upd (upd (upd (upd (upd (upd (fun _ => 0) 0 (-1)) 1 (-1)) 2 (-1)) 3 (-1)) 4 (-1)) 5 (-1)))), (q4, eA cI 8), (q5, eA cI 320), (q6, eA cI 40), (q7, eA cI 72), (q8, eA cI 16)] := hD
  refine lv_iinc (v := 6) (lv' := [(1, .int 6), (0, .ref h0)]) hx hb dX6_init_85 hl (k := 0) rfl (by decide) (by decide) rfl (fun ls hl => ?_)
  refine lv_goto (tgt := 72) hx hb dX6_init_88 (by decide) ?_
  refine lv_iload_n hx hb dX6_init_72 rfl (lv_at hl 0 rfl) ?_
  refine lv_bipush (v := 8) hx hb dX6_init_73 (by decide) ?_
  refine lv_icmp_ge (tgt := 91) hx hb dX6_init_75 (by decide) (fun c9 => absurd c9 (by decide)) (fun _ => ?_)
  refine lv_aload_n hx hb dX6_init_78 rfl (lv_at hl 1 rfl) ?_
  refine va_get (D := D) (ci := 6) (v := .ref q3) (C := RX6) (T := TX6) (N := 16) hx hb hts iX6 hown hK hP 0 rfl rfl 6 (by decide) (hts (.fieldLink RX6 16 "PulpitRoadsModel" "many" "[I") (by decide +kernel)) (fun _ h9 => h9) rfl dX6_init_79 ?_
  refine lv_iload_n hx hb dX6_init_82 rfl (lv_at hl 0 rfl) ?_
  refine lv_iconst (v := -1) hx hb dX6_init_83 (by decide) ?_
  refine va_iast hx hb hK hP hD hS 3 0 rfl rfl (by unfold vp_in; decide) dX6_init_84 (fun H locs hP hD hS => ?_)
  have hP : va_P D vwCl [(h0, .inr (6, [.ref q1, .int 0, .ref q2, .int 0, .int 0, .int 0, .ref q3, .ref q4, .ref q5, .ref q6, .int 0, .int 0, .int 0, .ref q7, .ref q8, .int 0])), (q1, eA cI 670), (q2, eA cI 90), (q3, .inl (cI, 8, .inl (upd (upd (upd (upd (upd (upd (upd (fun _ => 0) 0 (-1)) 1 (-1)) 2 (-1)) 3 (-1)) 4 (-1)) 5 (-1)) 6 (-1)))), (q4, eA cI 8), (q5, eA cI 320), (q6, eA cI 40), (q7, eA cI 72), (q8, eA cI 16)] H := hP
  have hD : va_D A [(h0, .inr (6, [.ref q1, .int 0, .ref q2, .int 0, .int 0, .int 0, .ref q3, .ref q4, .ref q5, .ref q6, .int 0, .int 0, .int 0, .ref q7, .ref q8, .int 0])), (q1, eA cI 670), (q2, eA cI 90), (q3, .inl (cI, 8, .inl (upd (upd (upd (upd (upd (upd (upd (fun _ => 0) 0 (-1)) 1 (-1)) 2 (-1)) 3 (-1)) 4 (-1)) 5 (-1)) 6 (-1)))), (q4, eA cI 8), (q5, eA cI 320), (q6, eA cI 40), (q7, eA cI 72), (q8, eA cI 16)] := hD
  refine lv_iinc (v := 7) (lv' := [(1, .int 7), (0, .ref h0)]) hx hb dX6_init_85 hl (k := 0) rfl (by decide) (by decide) rfl (fun ls hl => ?_)
  refine lv_goto (tgt := 72) hx hb dX6_init_88 (by decide) ?_
  refine lv_iload_n hx hb dX6_init_72 rfl (lv_at hl 0 rfl) ?_
  refine lv_bipush (v := 8) hx hb dX6_init_73 (by decide) ?_
  refine lv_icmp_ge (tgt := 91) hx hb dX6_init_75 (by decide) (fun c9 => absurd c9 (by decide)) (fun _ => ?_)
  refine lv_aload_n hx hb dX6_init_78 rfl (lv_at hl 1 rfl) ?_
  refine va_get (D := D) (ci := 6) (v := .ref q3) (C := RX6) (T := TX6) (N := 16) hx hb hts iX6 hown hK hP 0 rfl rfl 6 (by decide) (hts (.fieldLink RX6 16 "PulpitRoadsModel" "many" "[I") (by decide +kernel)) (fun _ h9 => h9) rfl dX6_init_79 ?_
  refine lv_iload_n hx hb dX6_init_82 rfl (lv_at hl 0 rfl) ?_
  refine lv_iconst (v := -1) hx hb dX6_init_83 (by decide) ?_
  refine va_iast hx hb hK hP hD hS 3 0 rfl rfl (by unfold vp_in; decide) dX6_init_84 (fun H locs hP hD hS => ?_)
  have hP : va_P D vwCl [(h0, .inr (6, [.ref q1, .int 0, .ref q2, .int 0, .int 0, .int 0, .ref q3, .ref q4, .ref q5, .ref q6, .int 0, .int 0, .int 0, .ref q7, .ref q8, .int 0])), (q1, eA cI 670), (q2, eA cI 90), (q3, .inl (cI, 8, .inl (upd (upd (upd (upd (upd (upd (upd (upd (fun _ => 0) 0 (-1)) 1 (-1)) 2 (-1)) 3 (-1)) 4 (-1)) 5 (-1)) 6 (-1)) 7 (-1)))), (q4, eA cI 8), (q5, eA cI 320), (q6, eA cI 40), (q7, eA cI 72), (q8, eA cI 16)] H := hP
  have hD : va_D A [(h0, .inr (6, [.ref q1, .int 0, .ref q2, .int 0, .int 0, .int 0, .ref q3, .ref q4, .ref q5, .ref q6, .int 0, .int 0, .int 0, .ref q7, .ref q8, .int 0])), (q1, eA cI 670), (q2, eA cI 90), (q3, .inl (cI, 8, .inl (upd (upd (upd (upd (upd (upd (upd (upd (fun _ => 0) 0 (-1)) 1 (-1)) 2 (-1)) 3 (-1)) 4 (-1)) 5 (-1)) 6 (-1)) 7 (-1)))), (q4, eA cI 8), (q5, eA cI 320), (q6, eA cI 40), (q7, eA cI 72), (q8, eA cI 16)] := hD
  refine lv_iinc (v := 8) (lv' := [(1, .int 8), (0, .ref h0)]) hx hb dX6_init_85 hl (k := 0) rfl (by decide) (by decide) rfl (fun ls hl => ?_)
  refine lv_goto (tgt := 72) hx hb dX6_init_88 (by decide) ?_
  refine lv_iload_n hx hb dX6_init_72 rfl (lv_at hl 0 rfl) ?_
  refine lv_bipush (v := 8) hx hb dX6_init_73 (by decide) ?_
  refine lv_icmp_ge (tgt := 91) hx hb dX6_init_75 (by decide) (fun _ => ?_) (fun c9 => absurd c9 (by decide))
  refine W.widen (k := 8) (n := 1224) (by omega) (by omega) ?_
  exact W.vret hx hb hr (fun t ht hW => ⟨⟨(), rfl, trivial, q1, q2, q3, q4, q5, q6, q7, q8, cI, by rw [ht]; exact hP, va_K.moved hW.alike hK, hD⟩, hS.F ht⟩) hS.2.2 dX6_init_91
