set_option maxHeartbeats 4000000 in
set_option maxRecDepth 100000 in
theorem ct_X5_set (l : Launch) {G : pw_G} (hG : pw_Ok G) {a1 : Int32} {a2 : Int32} {a3 : Int32}  {μ μ' : pw_Mem} {r : Int32} (h : fn_X5_set a1 a2 a3 μ = some (r, μ')) : Met l yX5_set wsX5_set ({ frames := 1, cells := 0, slots := 0, locals := 22 }) (va_Pc [.ref (gad G 0), .int a1, .int a2, .int a3] (pw_Pre G μ)) (va_Qi (fun (r1 : Int32) (u : pw_Mem) => r1 = r ∧ u = μ') (pw_B G) (gA G)) 0 0 (gA G) := by
  refine pw_met (lv := [(0, .ref (gad G 0)), (1, .int a1), (2, .int a2), (3, .int a3)]) (own := RX5) (cc := cX5_set) (maxL := 5) (ret := some .int) hG rfl (by decide) rfl rfl (Nat.le_of_ble_eq_true rfl) ?_
  intro p e s m below meth c C
  have iX3 : ∀ w ∈ u_ws RX3 TX3 4, w ∈ wsX5_set := fun _ h => List.mem_cons_of_mem _ (List.mem_append_right _ (h))
  have iX5 : ∀ w ∈ u_ws RX5 TX5 10, w ∈ wsX5_set := fun _ h => List.mem_cons_of_mem _ (List.mem_append_left _ (List.mem_append_right _ (h)))
  have k1 := C.2.2.2.2.1 (.constant RX5 59 (-1000001)) (List.mem_cons_of_mem _ (List.mem_append_left _ (List.mem_append_left _ (List.mem_append_left _ (List.mem_of_getElem? (i := 0) rfl)))))
  have k13 := C.2.2.2.2.1 (.instanceMethod yX3_hasPlaces) (List.mem_cons_of_mem _ (List.mem_append_left _ (List.mem_append_left _ (List.mem_append_left _ (List.mem_of_getElem? (i := 12) rfl)))))
  have k14 := C.2.2.2.2.1 (.initialized RX3) (List.mem_cons_of_mem _ (List.mem_append_left _ (List.mem_append_left _ (List.mem_append_left _ (List.mem_of_getElem? (i := 13) rfl)))))
  have k15 := C.2.2.2.2.1 (.selects RX3 yX3_hasPlaces yX3_hasPlaces) (List.mem_cons_of_mem _ (List.mem_append_left _ (List.mem_append_left _ (List.mem_append_left _ (List.mem_of_getElem? (i := 14) rfl)))))
  have k18 := C.2.2.2.2.1 (.instanceMethod yX3_cut) (List.mem_cons_of_mem _ (List.mem_append_left _ (List.mem_append_left _ (List.mem_append_left _ (List.mem_of_getElem? (i := 17) rfl)))))
  have k19 := C.2.2.2.2.1 (.selects RX3 yX3_cut yX3_cut) (List.mem_cons_of_mem _ (List.mem_append_left _ (List.mem_append_left _ (List.mem_append_left _ (List.mem_of_getElem? (i := 18) rfl)))))
  have k2 := C.2.2.2.2.1 (.fieldLink RX5 11 "PulpitRoads" "rows" "[LPulpitRoads$Row;") (List.mem_cons_of_mem _ (List.mem_append_left _ (List.mem_append_left _ (List.mem_append_left _ (List.mem_of_getElem? (i := 1) rfl)))))
  have nm6 : va_Nw (.methodLinkNest RX5 75 yX3_hasPlaces "PulpitRoads") s := C.2.2.2.2.2.2.2.1.2.1.2 ("PulpitRoads", 75, ⟨"PulpitRoads$Row", "hasPlaces", "(II)Z"⟩, "PulpitRoads") (List.mem_of_getElem? (i := 6) rfl)
  have nm7 : va_Nw (.methodLinkNest RX5 82 yX3_cut "PulpitRoads") s := C.2.2.2.2.2.2.2.1.2.1.2 ("PulpitRoads", 82, ⟨"PulpitRoads$Row", "cut", "(I)I"⟩, "PulpitRoads") (List.mem_of_getElem? (i := 7) rfl)
  unfold fn_X5_set at h
  refine pw_iload_n C dX5_set_0 rfl 1 rfl ?_
  obtain ⟨r1, m1, hc1, h⟩ := fn_bi_s h
  refine pw_callSi (rest := []) C (ct_X5_isRow l C.2.2.2.2.2.2.2.2 hc1) (va_cwS 1 C.2.2.2.2.1 gX5_set_X5_isRow rfl rfl rfl (by decide +kernel) ⟨Nat.le_of_ble_eq_true rfl, Nat.le_of_ble_eq_true rfl⟩) rfl rfl (Nat.le_of_ble_eq_true rfl) dX5_set_1 ?_
  refine pw_if_ne (tgt := 10) C dX5_set_4 (by decide) (fun c4 => ?_) (fun c4 => ?_)
  · have h := fn_pos c4 h
    refine pw_aload_n C dX5_set_10 rfl 0 rfl ?_
    refine pw_get (v := .ref (gad G 1)) C iX5 (by decide) (pw_sh_0 _) rfl 0 (by decide) k2 rfl dX5_set_11 ?_
    refine pw_iload_n C dX5_set_14 rfl 1 rfl ?_
    obtain ⟨hi15, h⟩ := fn_ix_s h
    refine pw_aldR C hi15 dX5_set_15 ?_
    refine pw_astore (lv' := [(4, .ref (gad G (24 + 2 * (a1).toNatClampNeg))), (0, .ref (gad G 0)), (1, .int a1), (2, .int a2), (3, .int a3)]) C dX5_set_16 (by decide) rfl ?_
    refine pw_aload C dX5_set_18 0 rfl ?_
    refine pw_getN (v := .int (m1 (24 + 2 * (a1).toNatClampNeg) 1)) C iX3 (pw_ltR (pw_KR_of hi15)) (pw_shR (pw_KR_of hi15) _) rfl 1 (by decide) 34 rfl rfl dX5_set_20 ?_
    refine pw_if_eq (tgt := 32) C dX5_set_23 (by decide) (fun c23 => ?_) (fun c23 => ?_)
    · have h := fn_pos c23 h
      refine pw_aload C dX5_set_32 0 rfl ?_
      refine pw_iload_n C dX5_set_34 rfl 3 rfl ?_
      refine pw_iconst (v := (1 : Int32)) C dX5_set_35 (by decide) ?_
      obtain ⟨r36, m36, hc36, h⟩ := fn_bi_s h
      refine pw_callVNi (rest := []) C (pw_ltR (pw_KR_of hi15)) (pw_shR (pw_KR_of hi15) _) rfl (ct_X3_hasPlaces l C.2.2.2.2.2.2.2.2 (pw_KR_of hi15) hc36) ⟨va_cnB 2 C.2.2.2.2.1 gX5_set_X3_hasPlaces_n75 rfl rfl rfl nm6 k14 (by decide +kernel) ⟨Nat.le_of_ble_eq_true rfl, Nat.le_of_ble_eq_true rfl⟩, k13, k15⟩ rfl rfl (Nat.le_of_ble_eq_true rfl) dX5_set_36 ?_
      refine pw_if_ne (tgt := 48) C dX5_set_39 (by decide) (fun c39 => ?_) (fun c39 => ?_)
      · have h := fn_pos c39 h
        refine pw_aload C dX5_set_48 0 rfl ?_
        refine pw_getN (v := .ref (gad G ((24 + 2 * (a1).toNatClampNeg) + 1))) C iX3 (pw_ltR (pw_KR_of hi15)) (pw_shR (pw_KR_of hi15) _) rfl 0 (by decide) 33 rfl rfl dX5_set_50 ?_
        refine pw_iload_n C dX5_set_53 rfl 3 rfl ?_
        refine pw_aload C dX5_set_54 0 rfl ?_
        refine pw_iload_n C dX5_set_56 rfl 4 rfl ?_
        obtain ⟨r57, m57, hc57, h⟩ := fn_bi_s h
        refine pw_callVNi (rest := [.int a2, .ref (gad G ((24 + 2 * (a1).toNatClampNeg) + 1))]) C (pw_ltR (pw_KR_of hi15)) (pw_shR (pw_KR_of hi15) _) rfl (ct_X3_cut l C.2.2.2.2.2.2.2.2 (pw_KR_of hi15) hc57) ⟨va_cnB 1 C.2.2.2.2.1 gX5_set_X3_cut_n82 rfl rfl rfl nm7 k14 (by decide +kernel) ⟨Nat.le_of_ble_eq_true rfl, Nat.le_of_ble_eq_true rfl⟩, k18, k19⟩ rfl rfl (Nat.le_of_ble_eq_true rfl) dX5_set_57 ?_
        obtain ⟨hi60, h⟩ := fn_ix_s h
        refine pw_iast C (pw_ltR1 (pw_KR_of hi15)) (pw_shR1 (pw_KR_of hi15)) hi60 dX5_set_60 ?_
        refine pw_aload_n C dX5_set_61 rfl 1 rfl ?_
        refine pw_aload C dX5_set_62 0 rfl ?_
        refine pw_getN (v := .ref (gad G ((24 + 2 * (a1).toNatClampNeg) + 1))) C iX3 (pw_ltR (pw_KR_of hi15)) (pw_shR (pw_KR_of hi15) _) rfl 0 (by decide) 33 rfl rfl dX5_set_64 ?_
        refine pw_iload_n C dX5_set_67 rfl 3 rfl ?_
        obtain ⟨hi68, h⟩ := fn_ix_s h
        refine pw_iald C (pw_ltR1 (pw_KR_of hi15)) ((pw_shR1 (pw_KR_of hi15)) _) hi68 dX5_set_68 ?_
        obtain ⟨r69, m69, hc69, h⟩ := fn_bi_s h
        refine pw_callVi (rest := []) C (by decide) (pw_sh_0 _) rfl (ct_X5_foundNothing l C.2.2.2.2.2.2.2.2 hc69) (cwV 1 C.2.2.2.2.1 gX5_set_X5_foundNothing rfl rfl rfl (by decide +kernel) ⟨Nat.le_of_ble_eq_true rfl, Nat.le_of_ble_eq_true rfl⟩) rfl rfl (Nat.le_of_ble_eq_true rfl) dX5_set_69 ?_
        exact pw_iret C h dX5_set_72
      · have h := fn_neg c39 h
        refine pw_aload_n C dX5_set_42 rfl 1 rfl ?_
        refine pw_iconst (v := (2 : Int32)) C dX5_set_43 (by decide) ?_
        obtain ⟨r44, m44, hc44, h⟩ := fn_bi_s h
        refine pw_callVi (rest := []) C (by decide) (pw_sh_0 _) rfl (ct_X5_found l C.2.2.2.2.2.2.2.2 hc44) (cwV 1 C.2.2.2.2.1 gX5_set_X5_found rfl rfl rfl (by decide +kernel) ⟨Nat.le_of_ble_eq_true rfl, Nat.le_of_ble_eq_true rfl⟩) rfl rfl (Nat.le_of_ble_eq_true rfl) dX5_set_44 ?_
        exact pw_iret C h dX5_set_47
    · have h := fn_neg c23 h
      refine pw_aload_n C dX5_set_26 rfl 1 rfl ?_
      refine pw_iconst (v := (1 : Int32)) C dX5_set_27 (by decide) ?_
      obtain ⟨r28, m28, hc28, h⟩ := fn_bi_s h
      refine pw_callVi (rest := []) C (by decide) (pw_sh_0 _) rfl (ct_X5_found l C.2.2.2.2.2.2.2.2 hc28) (cwV 1 C.2.2.2.2.1 gX5_set_X5_found rfl rfl rfl (by decide +kernel) ⟨Nat.le_of_ble_eq_true rfl, Nat.le_of_ble_eq_true rfl⟩) rfl rfl (Nat.le_of_ble_eq_true rfl) dX5_set_28 ?_
      exact pw_iret C h dX5_set_31
  · have h := fn_neg c4 h
    refine pw_ldc C k1 dX5_set_7 ?_
    exact pw_iret C h dX5_set_9
set_option maxHeartbeats 4000000 in
set_option maxRecDepth 100000 in
theorem ct_X5_copy (l : Launch) {G : pw_G} (hG : pw_Ok G) {a1 : Int32} {a2 : Int32} {a3 : Int32} {a4 : Int32} {a5 : Int32}  {μ μ' : pw_Mem} {r : Int32} (h : fn_X5_copy a1 a2 a3 a4 a5 μ = some (r, μ')) : Met l yX5_copy wsX5_copy ({ frames := 1, cells := 0, slots := 0, locals := 200 }) (va_Pc [.ref (gad G 0), .int a1, .int a2, .int a3, .int a4, .int a5] (pw_Pre G μ)) (va_Qi (fun (r1 : Int32) (u : pw_Mem) => r1 = r ∧ u = μ') (pw_B G) (gA G)) 0 0 (gA G) := by
  refine pw_met (lv := [(0, .ref (gad G 0)), (1, .int a1), (2, .int a2), (3, .int a3), (4, .int a4), (5, .int a5)]) (own := RX5) (cc := cX5_copy) (maxL := 8) (ret := some .int) hG rfl (by decide) rfl rfl (Nat.le_of_ble_eq_true rfl) ?_
  intro p e s m below meth c C
  have iX3 : ∀ w ∈ u_ws RX3 TX3 4, w ∈ wsX5_copy := fun _ h => List.mem_cons_of_mem _ (List.mem_append_right _ (h))
  have iX5 : ∀ w ∈ u_ws RX5 TX5 10, w ∈ wsX5_copy := fun _ h => List.mem_cons_of_mem _ (List.mem_append_left _ (List.mem_append_right _ (h)))
  have k1 := C.2.2.2.2.1 (.constant RX5 59 (-1000001)) (List.mem_cons_of_mem _ (List.mem_append_left _ (List.mem_append_left _ (List.mem_append_left _ (List.mem_of_getElem? (i := 0) rfl)))))
  have k17 := C.2.2.2.2.1 (.instanceMethod yX3_hasPlaces) (List.mem_cons_of_mem _ (List.mem_append_left _ (List.mem_append_left _ (List.mem_append_left _ (List.mem_of_getElem? (i := 16) rfl)))))
  have k18 := C.2.2.2.2.1 (.initialized RX3) (List.mem_cons_of_mem _ (List.mem_append_left _ (List.mem_append_left _ (List.mem_append_left _ (List.mem_of_getElem? (i := 17) rfl)))))
  have k19 := C.2.2.2.2.1 (.selects RX3 yX3_hasPlaces yX3_hasPlaces) (List.mem_cons_of_mem _ (List.mem_append_left _ (List.mem_append_left _ (List.mem_append_left _ (List.mem_of_getElem? (i := 18) rfl)))))
  have k2 := C.2.2.2.2.1 (.fieldLink RX5 11 "PulpitRoads" "rows" "[LPulpitRoads$Row;") (List.mem_cons_of_mem _ (List.mem_append_left _ (List.mem_append_left _ (List.mem_append_left _ (List.mem_of_getElem? (i := 1) rfl)))))
  have k3 := C.2.2.2.2.1 (.methodLink RX5 89 arraycopyName) (List.mem_cons_of_mem _ (List.mem_append_left _ (List.mem_append_left _ (List.mem_append_left _ (List.mem_of_getElem? (i := 2) rfl)))))
  have k4 := C.2.2.2.2.1 (.native arraycopyName) (List.mem_cons_of_mem _ (List.mem_append_left _ (List.mem_append_left _ (List.mem_append_left _ (List.mem_of_getElem? (i := 3) rfl)))))
  have k5 := C.2.2.2.2.1 (.static arraycopyName) (List.mem_cons_of_mem _ (List.mem_append_left _ (List.mem_append_left _ (List.mem_append_left _ (List.mem_of_getElem? (i := 4) rfl)))))
  have k6 := C.2.2.2.2.1 (.initialized "java/lang/System") (List.mem_cons_of_mem _ (List.mem_append_left _ (List.mem_append_left _ (List.mem_append_left _ (List.mem_of_getElem? (i := 5) rfl)))))
  have nm6 : va_Nw (.methodLinkNest RX5 75 yX3_hasPlaces "PulpitRoads") s := C.2.2.2.2.2.2.2.1.2.1.2 ("PulpitRoads", 75, ⟨"PulpitRoads$Row", "hasPlaces", "(II)Z"⟩, "PulpitRoads") (List.mem_of_getElem? (i := 6) rfl)
  unfold fn_X5_copy at h
  refine pw_iload_n C dX5_copy_0 rfl 1 rfl ?_
  obtain ⟨r1, m1, hc1, h⟩ := fn_bi_s h
  refine pw_callSi (rest := []) C (ct_X5_isRow l C.2.2.2.2.2.2.2.2 hc1) (va_cwS 1 C.2.2.2.2.1 gX5_copy_X5_isRow rfl rfl rfl (by decide +kernel) ⟨Nat.le_of_ble_eq_true rfl, Nat.le_of_ble_eq_true rfl⟩) rfl rfl (Nat.le_of_ble_eq_true rfl) dX5_copy_1 ?_
  refine pw_if_eq (tgt := 14) C dX5_copy_4 (by decide) (fun c4 => ?_) (fun c4 => ?_)
  · have h := fn_pos c4 h
    refine pw_ldc C k1 dX5_copy_14 ?_
    exact pw_iret C h dX5_copy_16
  · have h := fn_neg c4 h
    refine pw_iload_n C dX5_copy_7 rfl 3 rfl ?_
    obtain ⟨r8, m8, hc8, h⟩ := fn_bi_s h
    refine pw_callSi (rest := []) C (ct_X5_isRow l C.2.2.2.2.2.2.2.2 hc8) (va_cwS 1 C.2.2.2.2.1 gX5_copy_X5_isRow rfl rfl rfl (by decide +kernel) ⟨Nat.le_of_ble_eq_true rfl, Nat.le_of_ble_eq_true rfl⟩) rfl rfl (Nat.le_of_ble_eq_true rfl) dX5_copy_8 ?_
    refine pw_if_ne (tgt := 17) C dX5_copy_11 (by decide) (fun c11 => ?_) (fun c11 => ?_)
    · have h := fn_pos c11 h
      refine pw_aload_n C dX5_copy_17 rfl 0 rfl ?_
      refine pw_get (v := .ref (gad G 1)) C iX5 (by decide) (pw_sh_0 _) rfl 0 (by decide) k2 rfl dX5_copy_18 ?_
      refine pw_iload_n C dX5_copy_21 rfl 1 rfl ?_
      obtain ⟨hi22, h⟩ := fn_ix_s h
      refine pw_aldR C hi22 dX5_copy_22 ?_
      refine pw_astore (lv' := [(6, .ref (gad G (24 + 2 * (a1).toNatClampNeg))), (0, .ref (gad G 0)), (1, .int a1), (2, .int a2), (3, .int a3), (4, .int a4), (5, .int a5)]) C dX5_copy_23 (by decide) rfl ?_
      refine pw_aload_n C dX5_copy_25 rfl 1 rfl ?_
      refine pw_get (v := .ref (gad G 1)) C iX5 (by decide) (pw_sh_0 _) rfl 0 (by decide) k2 rfl dX5_copy_26 ?_
      refine pw_iload_n C dX5_copy_29 rfl 4 rfl ?_
      obtain ⟨hi30, h⟩ := fn_ix_s h
      refine pw_aldR C hi30 dX5_copy_30 ?_
      refine pw_astore (lv' := [(7, .ref (gad G (24 + 2 * (a3).toNatClampNeg))), (6, .ref (gad G (24 + 2 * (a1).toNatClampNeg))), (0, .ref (gad G 0)), (1, .int a1), (2, .int a2), (3, .int a3), (4, .int a4), (5, .int a5)]) C dX5_copy_31 (by decide) rfl ?_
      refine pw_aload C dX5_copy_33 1 rfl ?_
      refine pw_getN (v := .int (m8 (24 + 2 * (a1).toNatClampNeg) 1)) C iX3 (pw_ltR (pw_KR_of hi22)) (pw_shR (pw_KR_of hi22) _) rfl 1 (by decide) 34 rfl rfl dX5_copy_35 ?_
      refine pw_if_ne (tgt := 49) C dX5_copy_38 (by decide) (fun c38 => ?_) (fun c38 => ?_)
      · have h := fn_pos c38 h
        refine pw_aload_n C dX5_copy_49 rfl 2 rfl ?_
        refine pw_iconst (v := (1 : Int32)) C dX5_copy_50 (by decide) ?_
        obtain ⟨r51, m51, hc51, h⟩ := fn_bi_s h
        refine pw_callVi (rest := []) C (by decide) (pw_sh_0 _) rfl (ct_X5_found l C.2.2.2.2.2.2.2.2 hc51) (cwV 1 C.2.2.2.2.1 gX5_copy_X5_found rfl rfl rfl (by decide +kernel) ⟨Nat.le_of_ble_eq_true rfl, Nat.le_of_ble_eq_true rfl⟩) rfl rfl (Nat.le_of_ble_eq_true rfl) dX5_copy_51 ?_
        exact pw_iret C h dX5_copy_54
      · have h := fn_neg c38 h
        refine pw_aload C dX5_copy_41 0 rfl ?_
        refine pw_getN (v := .int (m8 (24 + 2 * (a3).toNatClampNeg) 1)) C iX3 (pw_ltR (pw_KR_of hi30)) (pw_shR (pw_KR_of hi30) _) rfl 1 (by decide) 34 rfl rfl dX5_copy_43 ?_
        refine pw_if_eq (tgt := 55) C dX5_copy_46 (by decide) (fun c46 => ?_) (fun c46 => ?_)
        · have h := fn_pos c46 h
          refine pw_aload C dX5_copy_55 1 rfl ?_
          refine pw_getN (v := .int (m8 (24 + 2 * (a1).toNatClampNeg) 2)) C iX3 (pw_ltR (pw_KR_of hi22)) (pw_shR (pw_KR_of hi22) _) rfl 2 (by decide) 35 rfl rfl dX5_copy_57 ?_
          refine pw_aload C dX5_copy_60 0 rfl ?_
          refine pw_getN (v := .int (m8 (24 + 2 * (a3).toNatClampNeg) 2)) C iX3 (pw_ltR (pw_KR_of hi30)) (pw_shR (pw_KR_of hi30) _) rfl 2 (by decide) 35 rfl rfl dX5_copy_62 ?_
          refine pw_icmp_eq (tgt := 74) C dX5_copy_65 (by decide) (fun c65 => ?_) (fun c65 => ?_)
          · have h := fn_pos c65 h
            refine pw_aload C dX5_copy_74 1 rfl ?_
            refine pw_iload_n C dX5_copy_76 rfl 4 rfl ?_
            refine pw_iload C dX5_copy_77 7 rfl ?_
            obtain ⟨r79, m79, hc79, h⟩ := fn_bi_s h
            refine pw_callVNi (rest := []) C (pw_ltR (pw_KR_of hi22)) (pw_shR (pw_KR_of hi22) _) rfl (ct_X3_hasPlaces l C.2.2.2.2.2.2.2.2 (pw_KR_of hi22) hc79) ⟨va_cnB 2 C.2.2.2.2.1 gX5_copy_X3_hasPlaces_n75 rfl rfl rfl nm6 k18 (by decide +kernel) ⟨Nat.le_of_ble_eq_true rfl, Nat.le_of_ble_eq_true rfl⟩, k17, k19⟩ rfl rfl (Nat.le_of_ble_eq_true rfl) dX5_copy_79 ?_
            refine pw_if_eq (tgt := 97) C dX5_copy_82 (by decide) (fun c82 => ?_) (fun c82 => ?_)
            · have h := fn_pos c82 h
              refine pw_aload_n C dX5_copy_97 rfl 2 rfl ?_
              refine pw_iconst (v := (2 : Int32)) C dX5_copy_98 (by decide) ?_
              obtain ⟨r99, m99, hc99, h⟩ := fn_bi_s h
              refine pw_callVi (rest := []) C (by decide) (pw_sh_0 _) rfl (ct_X5_found l C.2.2.2.2.2.2.2.2 hc99) (cwV 1 C.2.2.2.2.1 gX5_copy_X5_found rfl rfl rfl (by decide +kernel) ⟨Nat.le_of_ble_eq_true rfl, Nat.le_of_ble_eq_true rfl⟩) rfl rfl (Nat.le_of_ble_eq_true rfl) dX5_copy_99 ?_
              exact pw_iret C h dX5_copy_102
            · have h := fn_neg c82 h
              refine pw_aload C dX5_copy_85 0 rfl ?_
              refine pw_iload C dX5_copy_87 6 rfl ?_
              refine pw_iload C dX5_copy_89 7 rfl ?_
              obtain ⟨r91, m91, hc91, h⟩ := fn_bi_s h
              refine pw_callVNi (rest := []) C (pw_ltR (pw_KR_of hi30)) (pw_shR (pw_KR_of hi30) _) rfl (ct_X3_hasPlaces l C.2.2.2.2.2.2.2.2 (pw_KR_of hi30) hc91) ⟨va_cnB 2 C.2.2.2.2.1 gX5_copy_X3_hasPlaces_n75 rfl rfl rfl nm6 k18 (by decide +kernel) ⟨Nat.le_of_ble_eq_true rfl, Nat.le_of_ble_eq_true rfl⟩, k17, k19⟩ rfl rfl (Nat.le_of_ble_eq_true rfl) dX5_copy_91 ?_
              refine pw_if_ne (tgt := 103) C dX5_copy_94 (by decide) (fun c94 => ?_) (fun c94 => ?_)
              · have h := fn_pos c94 h
                refine pw_aload C dX5_copy_103 1 rfl ?_
                refine pw_getN (v := .ref (gad G ((24 + 2 * (a1).toNatClampNeg) + 1))) C iX3 (pw_ltR (pw_KR_of hi22)) (pw_shR (pw_KR_of hi22) _) rfl 0 (by decide) 33 rfl rfl dX5_copy_105 ?_
                refine pw_iload_n C dX5_copy_108 rfl 4 rfl ?_
                refine pw_aload C dX5_copy_109 0 rfl ?_
                refine pw_getN (v := .ref (gad G ((24 + 2 * (a3).toNatClampNeg) + 1))) C iX3 (pw_ltR (pw_KR_of hi30)) (pw_shR (pw_KR_of hi30) _) rfl 0 (by decide) 33 rfl rfl dX5_copy_111 ?_
                refine pw_iload C dX5_copy_114 6 rfl ?_
                refine pw_iload C dX5_copy_116 7 rfl ?_
                obtain ⟨hp118, h⟩ := fn_cp_s h
                refine pw_copyi (rest := []) C k3 k4 k5 k6 (pw_ltR1 (pw_KR_of hi22)) (pw_ltR1 (pw_KR_of hi30)) (pw_shR1 (pw_KR_of hi22)) (pw_shR1 (pw_KR_of hi30)) hp118 (by decide) (Nat.le_of_ble_eq_true rfl) dX5_copy_118 ?_
                refine pw_aload_n C dX5_copy_121 rfl 2 rfl ?_
                refine pw_iload C dX5_copy_122 7 rfl ?_
                obtain ⟨r124, m124, hc124, h⟩ := fn_bi_s h
                refine pw_callVi (rest := []) C (by decide) (pw_sh_0 _) rfl (ct_X5_foundNothing l C.2.2.2.2.2.2.2.2 hc124) (cwV 1 C.2.2.2.2.1 gX5_copy_X5_foundNothing rfl rfl rfl (by decide +kernel) ⟨Nat.le_of_ble_eq_true rfl, Nat.le_of_ble_eq_true rfl⟩) rfl rfl (Nat.le_of_ble_eq_true rfl) dX5_copy_124 ?_
                exact pw_iret C h dX5_copy_127
              · have h := fn_neg c94 h
                refine pw_aload_n C dX5_copy_97 rfl 2 rfl ?_
                refine pw_iconst (v := (2 : Int32)) C dX5_copy_98 (by decide) ?_
                obtain ⟨r99, m99, hc99, h⟩ := fn_bi_s h
                refine pw_callVi (rest := []) C (by decide) (pw_sh_0 _) rfl (ct_X5_found l C.2.2.2.2.2.2.2.2 hc99) (cwV 1 C.2.2.2.2.1 gX5_copy_X5_found rfl rfl rfl (by decide +kernel) ⟨Nat.le_of_ble_eq_true rfl, Nat.le_of_ble_eq_true rfl⟩) rfl rfl (Nat.le_of_ble_eq_true rfl) dX5_copy_99 ?_
                exact pw_iret C h dX5_copy_102
          · have h := fn_neg c65 h
            refine pw_aload_n C dX5_copy_68 rfl 2 rfl ?_
            refine pw_iconst (v := (5 : Int32)) C dX5_copy_69 (by decide) ?_
            obtain ⟨r70, m70, hc70, h⟩ := fn_bi_s h
            refine pw_callVi (rest := []) C (by decide) (pw_sh_0 _) rfl (ct_X5_found l C.2.2.2.2.2.2.2.2 hc70) (cwV 1 C.2.2.2.2.1 gX5_copy_X5_found rfl rfl rfl (by decide +kernel) ⟨Nat.le_of_ble_eq_true rfl, Nat.le_of_ble_eq_true rfl⟩) rfl rfl (Nat.le_of_ble_eq_true rfl) dX5_copy_70 ?_
            exact pw_iret C h dX5_copy_73
        · have h := fn_neg c46 h
          refine pw_aload_n C dX5_copy_49 rfl 2 rfl ?_
          refine pw_iconst (v := (1 : Int32)) C dX5_copy_50 (by decide) ?_
          obtain ⟨r51, m51, hc51, h⟩ := fn_bi_s h
          refine pw_callVi (rest := []) C (by decide) (pw_sh_0 _) rfl (ct_X5_found l C.2.2.2.2.2.2.2.2 hc51) (cwV 1 C.2.2.2.2.1 gX5_copy_X5_found rfl rfl rfl (by decide +kernel) ⟨Nat.le_of_ble_eq_true rfl, Nat.le_of_ble_eq_true rfl⟩) rfl rfl (Nat.le_of_ble_eq_true rfl) dX5_copy_51 ?_
          exact pw_iret C h dX5_copy_54
    · have h := fn_neg c11 h
      refine pw_ldc C k1 dX5_copy_14 ?_
      exact pw_iret C h dX5_copy_16
set_option maxHeartbeats 4000000 in
set_option maxRecDepth 100000 in
theorem ct_X5_drop (l : Launch) {G : pw_G} (hG : pw_Ok G) {a1 : Int32}  {μ μ' : pw_Mem} {r : Int32} (h : fn_X5_drop a1 μ = some (r, μ')) : Met l yX5_drop wsX5_drop ({ frames := 1, cells := 0, slots := 0, locals := 21 }) (va_Pc [.ref (gad G 0), .int a1] (pw_Pre G μ)) (va_Qi (fun (r1 : Int32) (u : pw_Mem) => r1 = r ∧ u = μ') (pw_B G) (gA G)) 0 0 (gA G) := by
  refine pw_met (lv := [(0, .ref (gad G 0)), (1, .int a1)]) (own := RX5) (cc := cX5_drop) (maxL := 3) (ret := some .int) hG rfl (by decide) rfl rfl (Nat.le_of_ble_eq_true rfl) ?_
  intro p e s m below meth c C
  have iX3 : ∀ w ∈ u_ws RX3 TX3 4, w ∈ wsX5_drop := fun _ h => List.mem_cons_of_mem _ (List.mem_append_right _ (h))
  have iX5 : ∀ w ∈ u_ws RX5 TX5 10, w ∈ wsX5_drop := fun _ h => List.mem_cons_of_mem _ (List.mem_append_left _ (List.mem_append_right _ (h)))
  have k1 := C.2.2.2.2.1 (.constant RX5 59 (-1000001)) (List.mem_cons_of_mem _ (List.mem_append_left _ (List.mem_append_left _ (List.mem_of_getElem? (i := 0) rfl))))
  have k2 := C.2.2.2.2.1 (.fieldLink RX5 11 "PulpitRoads" "rows" "[LPulpitRoads$Row;") (List.mem_cons_of_mem _ (List.mem_append_left _ (List.mem_append_left _ (List.mem_of_getElem? (i := 1) rfl))))
  unfold fn_X5_drop at h
  refine pw_iload_n C dX5_drop_0 rfl 1 rfl ?_
  obtain ⟨r1, m1, hc1, h⟩ := fn_bi_s h
  refine pw_callSi (rest := []) C (ct_X5_isRow l C.2.2.2.2.2.2.2.2 hc1) (va_cwS 1 C.2.2.2.2.1 gX5_drop_X5_isRow rfl rfl rfl (by decide +kernel) ⟨Nat.le_of_ble_eq_true rfl, Nat.le_of_ble_eq_true rfl⟩) rfl rfl (Nat.le_of_ble_eq_true rfl) dX5_drop_1 ?_
  refine pw_if_ne (tgt := 10) C dX5_drop_4 (by decide) (fun c4 => ?_) (fun c4 => ?_)
  · have h := fn_pos c4 h
    refine pw_aload_n C dX5_drop_10 rfl 0 rfl ?_
    refine pw_get (v := .ref (gad G 1)) C iX5 (by decide) (pw_sh_0 _) rfl 0 (by decide) k2 rfl dX5_drop_11 ?_
    refine pw_iload_n C dX5_drop_14 rfl 1 rfl ?_
    obtain ⟨hi15, h⟩ := fn_ix_s h
    refine pw_aldR C hi15 dX5_drop_15 ?_
    refine pw_astore_n (lv' := [(2, .ref (gad G (24 + 2 * (a1).toNatClampNeg))), (0, .ref (gad G 0)), (1, .int a1)]) C dX5_drop_16 rfl (by decide) rfl ?_
    refine pw_aload_n C dX5_drop_17 rfl 0 rfl ?_
    refine pw_getN (v := .int (m1 (24 + 2 * (a1).toNatClampNeg) 1)) C iX3 (pw_ltR (pw_KR_of hi15)) (pw_shR (pw_KR_of hi15) _) rfl 1 (by decide) 34 rfl rfl dX5_drop_18 ?_
    refine pw_if_eq (tgt := 30) C dX5_drop_21 (by decide) (fun c21 => ?_) (fun c21 => ?_)
    · have h := fn_pos c21 h
      refine pw_aload_n C dX5_drop_30 rfl 0 rfl ?_
      refine pw_iconst (v := (1 : Int32)) C dX5_drop_31 (by decide) ?_
      obtain ⟨hz32, h⟩ := fn_bz_s h
      refine pw_putN (host := "PulpitRoads") (ty := .boolean) C iX3 tyX3 tyX3_ok nmX3 (pw_ltR (pw_KR_of hi15)) (pw_shR (pw_KR_of hi15) _) rfl 1 (by decide) (pw_shR (pw_KR_of hi15) _) 34 rfl rfl (by decide +kernel) (fn_bool hz32) (Nat.le_of_ble_eq_true rfl) dX5_drop_32 ?_
      refine pw_aload_n C dX5_drop_35 rfl 1 rfl ?_
      refine pw_aload_n C dX5_drop_36 rfl 0 rfl ?_
      refine pw_getN (v := .int ((pw_st m1 (24 + 2 * (a1).toNatClampNeg) 1 (1 : Int32)) (24 + 2 * (a1).toNatClampNeg) 3)) C iX3 (pw_ltR (pw_KR_of hi15)) (pw_shR (pw_KR_of hi15) _) rfl 3 (by decide) 36 rfl rfl dX5_drop_37 ?_
      obtain ⟨r40, m40, hc40, h⟩ := fn_bi_s h
      refine pw_callVi (rest := []) C (by decide) (pw_sh_0 _) rfl (ct_X5_foundNothing l C.2.2.2.2.2.2.2.2 hc40) (cwV 1 C.2.2.2.2.1 gX5_drop_X5_foundNothing rfl rfl rfl (by decide +kernel) ⟨Nat.le_of_ble_eq_true rfl, Nat.le_of_ble_eq_true rfl⟩) rfl rfl (Nat.le_of_ble_eq_true rfl) dX5_drop_40 ?_
      exact pw_iret C h dX5_drop_43
    · have h := fn_neg c21 h
      refine pw_aload_n C dX5_drop_24 rfl 1 rfl ?_
      refine pw_iconst (v := (1 : Int32)) C dX5_drop_25 (by decide) ?_
      obtain ⟨r26, m26, hc26, h⟩ := fn_bi_s h
      refine pw_callVi (rest := []) C (by decide) (pw_sh_0 _) rfl (ct_X5_found l C.2.2.2.2.2.2.2.2 hc26) (cwV 1 C.2.2.2.2.1 gX5_drop_X5_found rfl rfl rfl (by decide +kernel) ⟨Nat.le_of_ble_eq_true rfl, Nat.le_of_ble_eq_true rfl⟩) rfl rfl (Nat.le_of_ble_eq_true rfl) dX5_drop_26 ?_
      exact pw_iret C h dX5_drop_29
  · have h := fn_neg c4 h
    refine pw_ldc C k1 dX5_drop_7 ?_
    exact pw_iret C h dX5_drop_9
set_option maxHeartbeats 4000000 in
set_option maxRecDepth 100000 in
theorem ct_X5_feed (l : Launch) {G : pw_G} (hG : pw_Ok G) {a1 : Int32}  {μ μ' : pw_Mem} {r : Int32} (h : fn_X5_feed a1 μ = some (r, μ')) : Met l yX5_feed wsX5_feed ({ frames := 1, cells := 0, slots := 0, locals := 21 }) (va_Pc [.ref (gad G 0), .int a1] (pw_Pre G μ)) (va_Qi (fun (r1 : Int32) (u : pw_Mem) => r1 = r ∧ u = μ') (pw_B G) (gA G)) 0 0 (gA G) := by
  refine pw_met (lv := [(0, .ref (gad G 0)), (1, .int a1)]) (own := RX5) (cc := cX5_feed) (maxL := 2) (ret := some .int) hG rfl (by decide) rfl rfl (Nat.le_of_ble_eq_true rfl) ?_
  intro p e s m below meth c C
  have iX4 : ∀ w ∈ u_ws RX4 TX4 4, w ∈ wsX5_feed := fun _ h => List.mem_cons_of_mem _ (List.mem_append_right _ (h))
  have iX5 : ∀ w ∈ u_ws RX5 TX5 10, w ∈ wsX5_feed := fun _ h => List.mem_cons_of_mem _ (List.mem_append_left _ (List.mem_append_right _ (h)))
  have k1 := C.2.2.2.2.1 (.constant RX5 59 (-1000001)) (List.mem_cons_of_mem _ (List.mem_append_left _ (List.mem_append_left _ (List.mem_of_getElem? (i := 0) rfl))))
  have k2 := C.2.2.2.2.1 (.fieldLink RX5 18 "PulpitRoads" "tape" "LPulpitRoads$Tape;") (List.mem_cons_of_mem _ (List.mem_append_left _ (List.mem_append_left _ (List.mem_of_getElem? (i := 1) rfl))))
  have k3 := C.2.2.2.2.1 (.constant RX5 99 (-1000003)) (List.mem_cons_of_mem _ (List.mem_append_left _ (List.mem_append_left _ (List.mem_of_getElem? (i := 2) rfl))))
  have k4 := C.2.2.2.2.1 (.instanceMethod yX4_add) (List.mem_cons_of_mem _ (List.mem_append_left _ (List.mem_append_left _ (List.mem_of_getElem? (i := 3) rfl))))
  have k5 := C.2.2.2.2.1 (.initialized RX4) (List.mem_cons_of_mem _ (List.mem_append_left _ (List.mem_append_left _ (List.mem_of_getElem? (i := 4) rfl))))
  have k6 := C.2.2.2.2.1 (.selects RX4 yX4_add yX4_add) (List.mem_cons_of_mem _ (List.mem_append_left _ (List.mem_append_left _ (List.mem_of_getElem? (i := 5) rfl))))
  have nm8 : va_Nw (.methodLinkNest RX5 100 yX4_add "PulpitRoads") s := C.2.2.2.2.2.2.2.1.2.1.2 ("PulpitRoads", 100, ⟨"PulpitRoads$Tape", "add", "(I)V"⟩, "PulpitRoads") (List.mem_of_getElem? (i := 8) rfl)
  unfold fn_X5_feed at h
  refine pw_iload_n C dX5_feed_0 rfl 1 rfl ?_
  refine pw_if_lt (tgt := 11) C dX5_feed_1 (by decide) (fun c1 => ?_) (fun c1 => ?_)
  · have h := fn_pos c1 h
    refine pw_ldc C k1 dX5_feed_11 ?_
    exact pw_iret C h dX5_feed_13
  · have h := fn_neg c1 h
    refine pw_iload_n C dX5_feed_4 rfl 1 rfl ?_
    refine pw_sipush (v := (255 : Int32)) C dX5_feed_5 (by decide) ?_
    refine pw_icmp_le (tgt := 14) C dX5_feed_8 (by decide) (fun c8 => ?_) (fun c8 => ?_)
    · have h := fn_pos c8 h
      refine pw_aload_n C dX5_feed_14 rfl 0 rfl ?_
      refine pw_get (v := .ref (gad G 2)) C iX5 (by decide) (pw_sh_0 _) rfl 1 (by decide) k2 rfl dX5_feed_15 ?_
      refine pw_getN (v := .int (μ 2 1)) C iX4 (by decide) (pw_sh_2 _) rfl 1 (by decide) 0 rfl rfl dX5_feed_18 ?_
      refine pw_bipush (v := (90 : Int32)) C dX5_feed_21 (by decide) ?_
      refine pw_icmp_lt (tgt := 29) C dX5_feed_23 (by decide) (fun c23 => ?_) (fun c23 => ?_)
      · have h := fn_pos c23 h
        refine pw_aload_n C dX5_feed_29 rfl 0 rfl ?_
        refine pw_get (v := .ref (gad G 2)) C iX5 (by decide) (pw_sh_0 _) rfl 1 (by decide) k2 rfl dX5_feed_30 ?_
        refine pw_iload_n C dX5_feed_33 rfl 1 rfl ?_
        obtain ⟨m34, hc34, h⟩ := fn_bv_s h
        refine pw_callVNv (rest := []) C (by decide) (pw_sh_2 _) rfl (ct_X4_add l C.2.2.2.2.2.2.2.2 hc34) ⟨va_cnB 1 C.2.2.2.2.1 gX5_feed_X4_add_n100 rfl rfl rfl nm8 k5 (by decide +kernel) ⟨Nat.le_of_ble_eq_true rfl, Nat.le_of_ble_eq_true rfl⟩, k4, k6⟩ rfl rfl (Nat.le_of_ble_eq_true rfl) dX5_feed_34 ?_
        refine pw_aload_n C dX5_feed_37 rfl 0 rfl ?_
        refine pw_get (v := .ref (gad G 2)) C iX5 (by decide) (pw_sh_0 _) rfl 1 (by decide) k2 rfl dX5_feed_38 ?_
        refine pw_getN (v := .int (m34 2 1)) C iX4 (by decide) (pw_sh_2 _) rfl 1 (by decide) 0 rfl rfl dX5_feed_41 ?_
        exact pw_iret C h dX5_feed_44
      · have h := fn_neg c23 h
        refine pw_ldc C k3 dX5_feed_26 ?_
        exact pw_iret C h dX5_feed_28
    · have h := fn_neg c8 h
      refine pw_ldc C k1 dX5_feed_11 ?_
      exact pw_iret C h dX5_feed_13
set_option maxHeartbeats 4000000 in
set_option maxRecDepth 100000 in
theorem ct_X5_road (l : Launch) {G : pw_G} (hG : pw_Ok G)   {μ μ' : pw_Mem} {r : Int32} (h : fn_X5_road μ = some (r, μ')) : Met l yX5_road wsX5_road ({ frames := 6, cells := 0, slots := 0, locals := 133 }) (va_Pc [.ref (gad G 0)] (pw_Pre G μ)) (va_Qi (fun (r1 : Int32) (u : pw_Mem) => r1 = r ∧ u = μ') (pw_B G) (gA G)) 0 0 (gA G) := by
  refine pw_met (lv := [(0, .ref (gad G 0))]) (own := RX5) (cc := cX5_road) (maxL := 2) (ret := some .int) hG rfl (by decide) rfl rfl (Nat.le_of_ble_eq_true rfl) ?_
  intro p e s m below meth c C
  have iX0 : ∀ w ∈ u_ws RX0 TX0 3, w ∈ wsX5_road := fun _ h => List.mem_cons_of_mem _ (List.mem_append_left _ (List.mem_append_right _ (h)))
  have iX2 : ∀ w ∈ u_ws RX2 TX2 12, w ∈ wsX5_road := fun _ h => List.mem_cons_of_mem _ (List.mem_append_right _ (h))
  have iX4 : ∀ w ∈ u_ws RX4 TX4 4, w ∈ wsX5_road := fun _ h => List.mem_cons_of_mem _ (List.mem_append_left _ (List.mem_append_left _ (List.mem_append_right _ (h))))
  have iX5 : ∀ w ∈ u_ws RX5 TX5 10, w ∈ wsX5_road := fun _ h => List.mem_cons_of_mem _ (List.mem_append_left _ (List.mem_append_left _ (List.mem_append_left _ (List.mem_append_right _ (h)))))
  have k1 := C.2.2.2.2.1 (.fieldLink RX5 18 "PulpitRoads" "tape" "LPulpitRoads$Tape;") (List.mem_cons_of_mem _ (List.mem_append_left _ (List.mem_append_left _ (List.mem_append_left _ (List.mem_append_left _ (List.mem_append_left _ (List.mem_of_getElem? (i := 0) rfl)))))))
  have k14 := C.2.2.2.2.1 (.initialized RX2) (List.mem_cons_of_mem _ (List.mem_append_left _ (List.mem_append_left _ (List.mem_append_left _ (List.mem_append_left _ (List.mem_append_left _ (List.mem_of_getElem? (i := 13) rfl)))))))
  have k2 := C.2.2.2.2.1 (.fieldLink RX5 29 "PulpitRoads" "foretold" "LPulpitRoads$Road;") (List.mem_cons_of_mem _ (List.mem_append_left _ (List.mem_append_left _ (List.mem_append_left _ (List.mem_append_left _ (List.mem_append_left _ (List.mem_of_getElem? (i := 1) rfl)))))))
  have k3 := C.2.2.2.2.1 (.fieldLink RX5 111 "PulpitRoads" "latestFault" "I") (List.mem_cons_of_mem _ (List.mem_append_left _ (List.mem_append_left _ (List.mem_append_left _ (List.mem_append_left _ (List.mem_append_left _ (List.mem_of_getElem? (i := 2) rfl)))))))
  have k4 := C.2.2.2.2.1 (.constant RX5 114 (-1000100)) (List.mem_cons_of_mem _ (List.mem_append_left _ (List.mem_append_left _ (List.mem_append_left _ (List.mem_append_left _ (List.mem_append_left _ (List.mem_of_getElem? (i := 3) rfl)))))))
  have k5 := C.2.2.2.2.1 (.fieldLink RX5 25 "PulpitRoads" "now" "LPulpitRoads$Road;") (List.mem_cons_of_mem _ (List.mem_append_left _ (List.mem_append_left _ (List.mem_append_left _ (List.mem_append_left _ (List.mem_append_left _ (List.mem_of_getElem? (i := 4) rfl)))))))
  have k6 := C.2.2.2.2.1 (.fieldLink RX5 43 "PulpitRoads" "acts" "LPulpitRoads$Acts;") (List.mem_cons_of_mem _ (List.mem_append_left _ (List.mem_append_left _ (List.mem_append_left _ (List.mem_append_left _ (List.mem_append_left _ (List.mem_of_getElem? (i := 5) rfl)))))))
  have k68 := C.2.2.2.2.1 (.instanceMethod yX2_take) (List.mem_cons_of_mem _ (List.mem_append_left _ (List.mem_append_left _ (List.mem_append_left _ (List.mem_append_left _ (List.mem_append_right _ (List.mem_append_right _ (List.mem_append_left _ (List.mem_of_getElem? (i := 19) rfl)))))))))
  have k69 := C.2.2.2.2.1 (.selects RX2 yX2_take yX2_take) (List.mem_cons_of_mem _ (List.mem_append_left _ (List.mem_append_left _ (List.mem_append_left _ (List.mem_append_left _ (List.mem_append_right _ (List.mem_append_right _ (List.mem_append_left _ (List.mem_of_getElem? (i := 20) rfl)))))))))
  have k7 := C.2.2.2.2.1 (.instanceMethod yX4_readInto) (List.mem_cons_of_mem _ (List.mem_append_left _ (List.mem_append_left _ (List.mem_append_left _ (List.mem_append_left _ (List.mem_append_left _ (List.mem_of_getElem? (i := 6) rfl)))))))
  have k8 := C.2.2.2.2.1 (.initialized RX4) (List.mem_cons_of_mem _ (List.mem_append_left _ (List.mem_append_left _ (List.mem_append_left _ (List.mem_append_left _ (List.mem_append_left _ (List.mem_of_getElem? (i := 7) rfl)))))))
  have k9 := C.2.2.2.2.1 (.selects RX4 yX4_readInto yX4_readInto) (List.mem_cons_of_mem _ (List.mem_append_left _ (List.mem_append_left _ (List.mem_append_left _ (List.mem_append_left _ (List.mem_append_left _ (List.mem_of_getElem? (i := 8) rfl)))))))
  have nm11 : va_Nw (.methodLinkNest RX5 118 yX2_take "PulpitRoads") s := C.2.2.2.2.2.2.2.1.2.1.2 ("PulpitRoads", 118, ⟨"PulpitRoads$Road", "take", "(LPulpitRoads$Road;)V"⟩, "PulpitRoads") (List.mem_of_getElem? (i := 11) rfl)
  have nm9 : va_Nw (.methodLinkNest RX5 104 yX4_readInto "PulpitRoads") s := C.2.2.2.2.2.2.2.1.2.1.2 ("PulpitRoads", 104, ⟨"PulpitRoads$Tape", "readInto", "(LPulpitRoads$Road;)Z"⟩, "PulpitRoads") (List.mem_of_getElem? (i := 9) rfl)
  unfold fn_X5_road at h
  refine pw_aload_n C dX5_road_0 rfl 0 rfl ?_
  refine pw_get (v := .ref (gad G 2)) C iX5 (by decide) (pw_sh_0 _) rfl 1 (by decide) k1 rfl dX5_road_1 ?_
  refine pw_aload_n C dX5_road_4 rfl 0 rfl ?_
  refine pw_get (v := .ref (gad G 11)) C iX5 (by decide) (pw_sh_0 _) rfl 3 (by decide) k2 rfl dX5_road_5 ?_
  obtain ⟨r8, m8, hc8, h⟩ := fn_bi_s h
  refine pw_callVNi (rest := []) C (by decide) (pw_sh_2 _) rfl (ct_X4_readInto l C.2.2.2.2.2.2.2.2 pw_K11 hc8) ⟨va_cnB 1 C.2.2.2.2.1 gX5_road_X4_readInto_n104 rfl rfl rfl nm9 k8 (by decide +kernel) ⟨Nat.le_of_ble_eq_true rfl, Nat.le_of_ble_eq_true rfl⟩, k7, k9⟩ rfl rfl (Nat.le_of_ble_eq_true rfl) dX5_road_8 ?_
  refine pw_istore_n (lv' := [(1, .int r8), (0, .ref (gad G 0))]) C dX5_road_11 rfl (by decide) rfl ?_
  refine pw_aload_n C dX5_road_12 rfl 1 rfl ?_
  refine pw_get (v := .ref (gad G 2)) C iX5 (by decide) (pw_sh_0 _) rfl 1 (by decide) k1 rfl dX5_road_13 ?_
  refine pw_iconst (v := (0 : Int32)) C dX5_road_16 (by decide) ?_
  refine pw_putN (host := "PulpitRoads") (ty := .int) C iX4 tyX4 tyX4_ok nmX4 (by decide) (pw_sh_2 _) rfl 1 (by decide) (pw_sh_2 _) 0 rfl rfl (by decide +kernel) (fn_int _) (Nat.le_of_ble_eq_true rfl) dX5_road_17 ?_
  refine pw_iload_n C dX5_road_20 rfl 0 rfl ?_
  refine pw_if_ne (tgt := 46) C dX5_road_21 (by decide) (fun c21 => ?_) (fun c21 => ?_)
  · have h := fn_pos c21 h
    refine pw_aload_n C dX5_road_46 rfl 1 rfl ?_
    refine pw_get (v := .ref (gad G 4)) C iX5 (by decide) (pw_sh_0 _) rfl 2 (by decide) k5 rfl dX5_road_47 ?_
    refine pw_aload_n C dX5_road_50 rfl 1 rfl ?_
    refine pw_get (v := .ref (gad G 11)) C iX5 (by decide) (pw_sh_0 _) rfl 3 (by decide) k2 rfl dX5_road_51 ?_
    obtain ⟨m54, hc54, h⟩ := fn_bv_s h
    refine pw_callVNv (rest := []) C (pw_ltD pw_K4) (pw_shD pw_K4 _) rfl (ct_X2_take l C.2.2.2.2.2.2.2.2 pw_K4 pw_K11 hc54) ⟨va_cnB 1 C.2.2.2.2.1 gX5_road_X2_take_n118 rfl rfl rfl nm11 k14 (by decide +kernel) ⟨Nat.le_of_ble_eq_true rfl, Nat.le_of_ble_eq_true rfl⟩, k68, k69⟩ rfl rfl (Nat.le_of_ble_eq_true rfl) dX5_road_54 ?_
    refine pw_aload_n C dX5_road_57 rfl 1 rfl ?_
    refine pw_get (v := .ref (gad G 20)) C iX5 (by decide) (pw_sh_0 _) rfl 6 (by decide) k6 rfl dX5_road_58 ?_
    refine pw_iconst (v := (0 : Int32)) C dX5_road_61 (by decide) ?_
    refine pw_putN (host := "PulpitRoads") (ty := .int) C iX0 tyX0 tyX0_ok nmX0 (by decide) (pw_sh_20 _) rfl 1 (by decide) (pw_sh_20 _) 30 rfl rfl (by decide +kernel) (fn_int _) (Nat.le_of_ble_eq_true rfl) dX5_road_62 ?_
    refine pw_aload_n C dX5_road_65 rfl 1 rfl ?_
    refine pw_get (v := .ref (gad G 4)) C iX5 (by decide) (pw_sh_0 _) rfl 2 (by decide) k5 rfl dX5_road_66 ?_
    refine pw_getN (v := .int ((pw_st m54 20 1 (0 : Int32)) 4 5)) C iX2 (pw_ltD pw_K4) (pw_shD pw_K4 _) rfl 5 (by decide) 13 rfl rfl dX5_road_69 ?_
    exact pw_iret C h dX5_road_72
  · have h := fn_neg c21 h
    refine pw_aload_n C dX5_road_24 rfl 1 rfl ?_
    refine pw_aload_n C dX5_road_25 rfl 1 rfl ?_
    refine pw_get (v := .ref (gad G 2)) C iX5 (by decide) (pw_sh_0 _) rfl 1 (by decide) k1 rfl dX5_road_26 ?_
    refine pw_getN (v := .int ((pw_st m8 2 1 (0 : Int32)) 2 3)) C iX4 (by decide) (pw_sh_2 _) rfl 3 (by decide) 2 rfl rfl dX5_road_29 ?_
    refine pw_put (host := "PulpitRoads") (ty := .int) C iX5 tyX5 tyX5_ok nmX5 (by decide) (pw_sh_0 _) rfl 8 (by decide) (pw_sh_0 _) k3 rfl (by decide +kernel) (fn_int _) (Nat.le_of_ble_eq_true rfl) dX5_road_32 ?_
    refine pw_ldc C k4 dX5_road_35 ?_
    refine pw_aload_n C dX5_road_37 rfl 1 rfl ?_
    refine pw_get (v := .ref (gad G 2)) C iX5 (by decide) (pw_sh_0 _) rfl 1 (by decide) k1 rfl dX5_road_38 ?_
    refine pw_getN (v := .int ((pw_st (pw_st m8 2 1 (0 : Int32)) 0 8 ((pw_st m8 2 1 (0 : Int32)) 2 3)) 2 2)) C iX4 (by decide) (pw_sh_2 _) rfl 2 (by decide) 1 rfl rfl dX5_road_41 ?_
    refine pw_isub C dX5_road_44 ?_
    exact pw_iret C h dX5_road_45
set_option maxHeartbeats 4000000 in
set_option maxRecDepth 100000 in
theorem ct_X5_fault (l : Launch) {G : pw_G} (hG : pw_Ok G)   {μ μ' : pw_Mem} {r : Int32} (h : fn_X5_fault μ = some (r, μ')) : Met l yX5_fault wsX5_fault ({ frames := 0, cells := 0, slots := 0, locals := 0 }) (va_Pc [.ref (gad G 0)] (pw_Pre G μ)) (va_Qi (fun (r1 : Int32) (u : pw_Mem) => r1 = r ∧ u = μ') (pw_B G) (gA G)) 0 0 (gA G) := by
  refine pw_met (lv := [(0, .ref (gad G 0))]) (own := RX5) (cc := cX5_fault) (maxL := 1) (ret := some .int) hG rfl (by decide) rfl rfl (Nat.le_of_ble_eq_true rfl) ?_
  intro p e s m below meth c C
  have iX5 : ∀ w ∈ u_ws RX5 TX5 10, w ∈ wsX5_fault := fun _ h => List.mem_cons_of_mem _ (List.mem_append_right _ (h))
  have k1 := C.2.2.2.2.1 (.fieldLink RX5 111 "PulpitRoads" "latestFault" "I") (List.mem_cons_of_mem _ (List.mem_append_left _ (List.mem_of_getElem? (i := 0) rfl)))
  unfold fn_X5_fault at h
  refine pw_aload_n C dX5_fault_0 rfl 0 rfl ?_
  refine pw_get (v := .int (μ 0 8)) C iX5 (by decide) (pw_sh_0 _) rfl 8 (by decide) k1 rfl dX5_fault_1 ?_
  exact pw_iret C h dX5_fault_4
set_option maxHeartbeats 4000000 in
set_option maxRecDepth 100000 in
theorem ct_X5_hours (l : Launch) {G : pw_G} (hG : pw_Ok G) {a1 : Int32}  {μ μ' : pw_Mem} {r : Int32} (h : fn_X5_hours a1 μ = some (r, μ')) : Met l yX5_hours wsX5_hours ({ frames := 4, cells := 0, slots := 0, locals := 91 }) (va_Pc [.ref (gad G 0), .int a1] (pw_Pre G μ)) (va_Qi (fun (r1 : Int32) (u : pw_Mem) => r1 = r ∧ u = μ') (pw_B G) (gA G)) 0 0 (gA G) := by
  refine pw_met (lv := [(0, .ref (gad G 0)), (1, .int a1)]) (own := RX5) (cc := cX5_hours) (maxL := 3) (ret := some .int) hG rfl (by decide) rfl rfl (Nat.le_of_ble_eq_true rfl) ?_
  intro p e s m below meth c C
  have iX2 : ∀ w ∈ u_ws RX2 TX2 12, w ∈ wsX5_hours := fun _ h => List.mem_cons_of_mem _ (List.mem_append_left _ (List.mem_append_right _ (h)))
  have iX5 : ∀ w ∈ u_ws RX5 TX5 10, w ∈ wsX5_hours := fun _ h => List.mem_cons_of_mem _ (List.mem_append_left _ (List.mem_append_left _ (List.mem_append_right _ (h))))
  have k1 := C.2.2.2.2.1 (.fieldLink RX5 25 "PulpitRoads" "now" "LPulpitRoads$Road;") (List.mem_cons_of_mem _ (List.mem_append_left _ (List.mem_append_left _ (List.mem_append_left _ (List.mem_append_left _ (List.mem_of_getElem? (i := 0) rfl))))))
  have k17 := C.2.2.2.2.1 (.instanceMethod yX2_goHour) (List.mem_cons_of_mem _ (List.mem_append_left _ (List.mem_append_left _ (List.mem_append_left _ (List.mem_append_left _ (List.mem_of_getElem? (i := 16) rfl))))))
  have k18 := C.2.2.2.2.1 (.initialized RX2) (List.mem_cons_of_mem _ (List.mem_append_left _ (List.mem_append_left _ (List.mem_append_left _ (List.mem_append_left _ (List.mem_of_getElem? (i := 17) rfl))))))
  have k19 := C.2.2.2.2.1 (.selects RX2 yX2_goHour yX2_goHour) (List.mem_cons_of_mem _ (List.mem_append_left _ (List.mem_append_left _ (List.mem_append_left _ (List.mem_append_left _ (List.mem_of_getElem? (i := 18) rfl))))))
  have k2 := C.2.2.2.2.1 (.constant RX5 131 (-1000002)) (List.mem_cons_of_mem _ (List.mem_append_left _ (List.mem_append_left _ (List.mem_append_left _ (List.mem_append_left _ (List.mem_of_getElem? (i := 1) rfl))))))
  have k3 := C.2.2.2.2.1 (.constant RX5 59 (-1000001)) (List.mem_cons_of_mem _ (List.mem_append_left _ (List.mem_append_left _ (List.mem_append_left _ (List.mem_append_left _ (List.mem_of_getElem? (i := 2) rfl))))))
  have k4 := C.2.2.2.2.1 (.constant RX5 99 (-1000003)) (List.mem_cons_of_mem _ (List.mem_append_left _ (List.mem_append_left _ (List.mem_append_left _ (List.mem_append_left _ (List.mem_of_getElem? (i := 3) rfl))))))
  have k5 := C.2.2.2.2.1 (.fieldLink RX5 43 "PulpitRoads" "acts" "LPulpitRoads$Acts;") (List.mem_cons_of_mem _ (List.mem_append_left _ (List.mem_append_left _ (List.mem_append_left _ (List.mem_append_left _ (List.mem_of_getElem? (i := 4) rfl))))))
  have k6 := C.2.2.2.2.1 (.instanceMethod yX0_keep) (List.mem_cons_of_mem _ (List.mem_append_left _ (List.mem_append_left _ (List.mem_append_left _ (List.mem_append_left _ (List.mem_of_getElem? (i := 5) rfl))))))
  have k64 := C.2.2.2.2.1 (.instanceMethod yX2_wholeGates) (List.mem_cons_of_mem _ (List.mem_append_left _ (List.mem_append_left _ (List.mem_append_left _ (List.mem_append_right _ (List.mem_append_right _ (List.mem_of_getElem? (i := 15) rfl)))))))
  have k65 := C.2.2.2.2.1 (.selects RX2 yX2_wholeGates yX2_wholeGates) (List.mem_cons_of_mem _ (List.mem_append_left _ (List.mem_append_left _ (List.mem_append_left _ (List.mem_append_right _ (List.mem_append_right _ (List.mem_of_getElem? (i := 16) rfl)))))))
  have k7 := C.2.2.2.2.1 (.initialized RX0) (List.mem_cons_of_mem _ (List.mem_append_left _ (List.mem_append_left _ (List.mem_append_left _ (List.mem_append_left _ (List.mem_of_getElem? (i := 6) rfl))))))
  have k8 := C.2.2.2.2.1 (.selects RX0 yX0_keep yX0_keep) (List.mem_cons_of_mem _ (List.mem_append_left _ (List.mem_append_left _ (List.mem_append_left _ (List.mem_append_left _ (List.mem_of_getElem? (i := 7) rfl))))))
  have nm12 : va_Nw (.methodLinkNest RX5 135 yX0_keep "PulpitRoads") s := C.2.2.2.2.2.2.2.1.2.1.2 ("PulpitRoads", 135, ⟨"PulpitRoads$Acts", "keep", "(LPulpitRoads$Road;)V"⟩, "PulpitRoads") (List.mem_of_getElem? (i := 12) rfl)
  have nm13 : va_Nw (.methodLinkNest RX5 138 yX2_goHour "PulpitRoads") s := C.2.2.2.2.2.2.2.1.2.1.2 ("PulpitRoads", 138, ⟨"PulpitRoads$Road", "goHour", "()V"⟩, "PulpitRoads") (List.mem_of_getElem? (i := 13) rfl)
  have nm14 : va_Nw (.methodLinkNest RX5 141 yX2_wholeGates "PulpitRoads") s := C.2.2.2.2.2.2.2.1.2.1.2 ("PulpitRoads", 141, ⟨"PulpitRoads$Road", "wholeGates", "()I"⟩, "PulpitRoads") (List.mem_of_getElem? (i := 14) rfl)
  unfold fn_X5_hours at h
  refine pw_aload_n C dX5_hours_0 rfl 0 rfl ?_
  refine pw_get (v := .ref (gad G 4)) C iX5 (by decide) (pw_sh_0 _) rfl 2 (by decide) k1 rfl dX5_hours_1 ?_
  refine pw_getN (v := .int (μ 4 0)) C iX2 (pw_ltD pw_K4) (pw_shD pw_K4 _) rfl 0 (by decide) 3 rfl rfl dX5_hours_4 ?_
  refine pw_if_ne (tgt := 13) C dX5_hours_7 (by decide) (fun c7 => ?_) (fun c7 => ?_)
  · have h := fn_pos c7 h
    refine pw_iload_n C dX5_hours_13 rfl 1 rfl ?_
    refine pw_iconst (v := (1 : Int32)) C dX5_hours_14 (by decide) ?_
    refine pw_icmp_lt (tgt := 24) C dX5_hours_15 (by decide) (fun c15 => ?_) (fun c15 => ?_)
    · have h := fn_pos c15 h
      refine pw_ldc C k3 dX5_hours_24 ?_
      exact pw_iret C h dX5_hours_26
    · have h := fn_neg c15 h
      refine pw_iload_n C dX5_hours_18 rfl 1 rfl ?_
      refine pw_bipush (v := (24 : Int32)) C dX5_hours_19 (by decide) ?_
      refine pw_icmp_le (tgt := 27) C dX5_hours_21 (by decide) (fun c21 => ?_) (fun c21 => ?_)
      · have h := fn_pos c21 h
        refine pw_aload_n C dX5_hours_27 rfl 0 rfl ?_
        refine pw_get (v := .ref (gad G 4)) C iX5 (by decide) (pw_sh_0 _) rfl 2 (by decide) k1 rfl dX5_hours_28 ?_
        refine pw_getN (v := .int (μ 4 3)) C iX2 (pw_ltD pw_K4) (pw_shD pw_K4 _) rfl 3 (by decide) 9 rfl rfl dX5_hours_31 ?_
        refine pw_iload_n C dX5_hours_34 rfl 1 rfl ?_
        refine pw_iadd C dX5_hours_35 ?_
        refine pw_sipush (v := (9999 : Int32)) C dX5_hours_36 (by decide) ?_
        refine pw_icmp_le (tgt := 45) C dX5_hours_39 (by decide) (fun c39 => ?_) (fun c39 => ?_)
        · have h := fn_pos c39 h
          refine pw_iconst (v := (0 : Int32)) C dX5_hours_45 (by decide) ?_
          refine pw_istore_n (lv' := [(2, .int (0 : Int32)), (0, .ref (gad G 0)), (1, .int a1)]) C dX5_hours_46 rfl (by decide) rfl ?_
          have L47 : ∀ (k : pw_Mem → Option (Int32 × pw_Mem)) (hk : ∀  (m1 : pw_Mem), k m1 = some (r, μ') → pw_Go p l e ({ frames := 4, cells := 0, slots := 0, locals := 91 }) s m (([.ref (gad G 0), .int a1] : List Value).toArray) below meth c (MQ below (va_Qi (fun (r1 : Int32) (u : pw_Mem) => r1 = r ∧ u = μ') (pw_B G) (gA G)) (([.ref (gad G 0), .int a1] : List Value).toArray) s 0 0 (gA G)) G 3 76 [(0, .ref (gad G 0))] [] m1) (n : Nat) (v2 : Int32) (m1 : pw_Mem), fl_X5_hours_47 k a1 n v2 m1 = some (r, μ') → pw_Go p l e ({ frames := 4, cells := 0, slots := 0, locals := 91 }) s m (([.ref (gad G 0), .int a1] : List Value).toArray) below meth c (MQ below (va_Qi (fun (r1 : Int32) (u : pw_Mem) => r1 = r ∧ u = μ') (pw_B G) (gA G)) (([.ref (gad G 0), .int a1] : List Value).toArray) s 0 0 (gA G)) G 3 47 [(0, .ref (gad G 0)), (1, .int a1), (2, .int v2)] [] m1 := by
            intro k hk n
            induction n with
            | zero => intro v2 m1 h; exact nomatch (show (none : Option (Int32 × pw_Mem)) = some _ from h)
            | succ n ih =>
              intro v2 m1 h
              rw [fl_X5_hours_47] at h
              refine pw_iload_n C dX5_hours_47 rfl 2 rfl ?_
              refine pw_iload_n C dX5_hours_48 rfl 1 rfl ?_
              refine pw_icmp_ge (tgt := 76) C dX5_hours_49 (by decide) (fun c49 => ?_) (fun c49 => ?_)
              · have h := fn_pos c49 h
                refine pw_sub [0] rfl ?_
                exact hk _ h
              · have h := fn_neg c49 h
                refine pw_aload_n C dX5_hours_52 rfl 0 rfl ?_
                refine pw_get (v := .ref (gad G 20)) C iX5 (by decide) (pw_sh_0 _) rfl 6 (by decide) k5 rfl dX5_hours_53 ?_
                refine pw_aload_n C dX5_hours_56 rfl 0 rfl ?_
                refine pw_get (v := .ref (gad G 4)) C iX5 (by decide) (pw_sh_0 _) rfl 2 (by decide) k1 rfl dX5_hours_57 ?_
                obtain ⟨m60, hc60, h⟩ := fn_bv_s h
                refine pw_callVNv (rest := []) C (by decide) (pw_sh_20 _) rfl (ct_X0_keep l C.2.2.2.2.2.2.2.2 pw_K4 hc60) ⟨va_cnB 1 C.2.2.2.2.1 gX5_hours_X0_keep_n135 rfl rfl rfl nm12 k7 (by decide +kernel) ⟨Nat.le_of_ble_eq_true rfl, Nat.le_of_ble_eq_true rfl⟩, k6, k8⟩ rfl rfl (Nat.le_of_ble_eq_true rfl) dX5_hours_60 ?_
                refine pw_aload_n C dX5_hours_63 rfl 0 rfl ?_
                refine pw_get (v := .ref (gad G 4)) C iX5 (by decide) (pw_sh_0 _) rfl 2 (by decide) k1 rfl dX5_hours_64 ?_
                obtain ⟨m67, hc67, h⟩ := fn_bv_s h
                refine pw_callVNv (rest := []) C (pw_ltD pw_K4) (pw_shD pw_K4 _) rfl (ct_X2_goHour l C.2.2.2.2.2.2.2.2 pw_K4 hc67) ⟨va_cnB 0 C.2.2.2.2.1 gX5_hours_X2_goHour_n138 rfl rfl rfl nm13 k18 (by decide +kernel) ⟨Nat.le_of_ble_eq_true rfl, Nat.le_of_ble_eq_true rfl⟩, k17, k19⟩ rfl rfl (Nat.le_of_ble_eq_true rfl) dX5_hours_67 ?_
                refine pw_iinc (v := (v2 + 1)) (lv' := [(2, .int (v2 + 1)), (0, .ref (gad G 0)), (1, .int a1)]) C dX5_hours_70 (q := 2) rfl rfl (by decide) rfl ?_
                refine pw_goto (tgt := 47) C dX5_hours_73 (by decide) ?_
                refine pw_sub [1, 2, 0] rfl ?_
                exact ih _ _ h
          refine pw_sub [1, 2, 0] rfl ?_
          refine L47 _ (fun m76 h => ?_) _ _ _ h
          refine pw_aload_n C dX5_hours_76 rfl 0 rfl ?_
          refine pw_get (v := .ref (gad G 4)) C iX5 (by decide) (pw_sh_0 _) rfl 2 (by decide) k1 rfl dX5_hours_77 ?_
          obtain ⟨r80, m80, hc80, h⟩ := fn_bi_s h
          refine pw_callVNi (rest := []) C (pw_ltD pw_K4) (pw_shD pw_K4 _) rfl (ct_X2_wholeGates l C.2.2.2.2.2.2.2.2 pw_K4 hc80) ⟨va_cnB 0 C.2.2.2.2.1 gX5_hours_X2_wholeGates_n141 rfl rfl rfl nm14 k18 (by decide +kernel) ⟨Nat.le_of_ble_eq_true rfl, Nat.le_of_ble_eq_true rfl⟩, k64, k65⟩ rfl rfl (Nat.le_of_ble_eq_true rfl) dX5_hours_80 ?_
          exact pw_iret C h dX5_hours_83
        · have h := fn_neg c39 h
          refine pw_ldc C k4 dX5_hours_42 ?_
          exact pw_iret C h dX5_hours_44
      · have h := fn_neg c21 h
        refine pw_ldc C k3 dX5_hours_24 ?_
        exact pw_iret C h dX5_hours_26
  · have h := fn_neg c7 h
    refine pw_ldc C k2 dX5_hours_10 ?_
    exact pw_iret C h dX5_hours_12
set_option maxHeartbeats 4000000 in
set_option maxRecDepth 100000 in
theorem ct_X5_isPulpit (l : Launch) {G : pw_G} (hG : pw_Ok G) {a1 : Int32}  {μ μ' : pw_Mem} {r : Int32} (h : fn_X5_isPulpit a1 μ = some (r, μ')) : Met l yX5_isPulpit wsX5_isPulpit ({ frames := 0, cells := 0, slots := 0, locals := 0 }) (va_Pc [.ref (gad G 0), .int a1] (pw_Pre G μ)) (va_Qi (fun (r1 : Int32) (u : pw_Mem) => r1 = r ∧ u = μ') (pw_B G) (gA G)) 0 0 (gA G) := by
  refine pw_met (lv := [(0, .ref (gad G 0)), (1, .int a1)]) (own := RX5) (cc := cX5_isPulpit) (maxL := 2) (ret := some .boolean) hG rfl (by decide) rfl rfl (Nat.le_of_ble_eq_true rfl) ?_
  intro p e s m below meth c C
  have iX2 : ∀ w ∈ u_ws RX2 TX2 12, w ∈ wsX5_isPulpit := fun _ h => List.mem_cons_of_mem _ (List.mem_append_right _ (h))
  have iX5 : ∀ w ∈ u_ws RX5 TX5 10, w ∈ wsX5_isPulpit := fun _ h => List.mem_cons_of_mem _ (List.mem_append_left _ (List.mem_append_right _ (h)))
  have k1 := C.2.2.2.2.1 (.fieldLink RX5 25 "PulpitRoads" "now" "LPulpitRoads$Road;") (List.mem_cons_of_mem _ (List.mem_append_left _ (List.mem_append_left _ (List.mem_of_getElem? (i := 0) rfl))))
  unfold fn_X5_isPulpit at h
  refine pw_iload_n C dX5_isPulpit_0 rfl 1 rfl ?_
  refine pw_if_lt (tgt := 19) C dX5_isPulpit_1 (by decide) (fun c1 => ?_) (fun c1 => ?_)
  · have h := fn_pos c1 h
    refine pw_iconst (v := (0 : Int32)) C dX5_isPulpit_19 (by decide) ?_
    obtain ⟨hz20, h⟩ := fn_bz_s h
    exact pw_zret C hz20 h dX5_isPulpit_20
  · have h := fn_neg c1 h
    refine pw_iload_n C dX5_isPulpit_4 rfl 1 rfl ?_
    refine pw_aload_n C dX5_isPulpit_5 rfl 0 rfl ?_
    refine pw_get (v := .ref (gad G 4)) C iX5 (by decide) (pw_sh_0 _) rfl 2 (by decide) k1 rfl dX5_isPulpit_6 ?_
    refine pw_getN (v := .int (μ 4 5)) C iX2 (pw_ltD pw_K4) (pw_shD pw_K4 _) rfl 5 (by decide) 13 rfl rfl dX5_isPulpit_9 ?_
    refine pw_icmp_ge (tgt := 19) C dX5_isPulpit_12 (by decide) (fun c12 => ?_) (fun c12 => ?_)
    · have h := fn_pos c12 h
      refine pw_iconst (v := (0 : Int32)) C dX5_isPulpit_19 (by decide) ?_
      obtain ⟨hz20, h⟩ := fn_bz_s h
      exact pw_zret C hz20 h dX5_isPulpit_20
    · have h := fn_neg c12 h
      refine pw_iconst (v := (1 : Int32)) C dX5_isPulpit_15 (by decide) ?_
      refine pw_goto (tgt := 20) C dX5_isPulpit_16 (by decide) ?_
      obtain ⟨hz20, h⟩ := fn_bz_s h
      exact pw_zret C hz20 h dX5_isPulpit_20
set_option maxHeartbeats 4000000 in
set_option maxRecDepth 100000 in
theorem ct_X5_isStretch (l : Launch) {G : pw_G} (hG : pw_Ok G) {a1 : Int32}  {μ μ' : pw_Mem} {r : Int32} (h : fn_X5_isStretch a1 μ = some (r, μ')) : Met l yX5_isStretch wsX5_isStretch ({ frames := 0, cells := 0, slots := 0, locals := 0 }) (va_Pc [.ref (gad G 0), .int a1] (pw_Pre G μ)) (va_Qi (fun (r1 : Int32) (u : pw_Mem) => r1 = r ∧ u = μ') (pw_B G) (gA G)) 0 0 (gA G) := by
  refine pw_met (lv := [(0, .ref (gad G 0)), (1, .int a1)]) (own := RX5) (cc := cX5_isStretch) (maxL := 2) (ret := some .boolean) hG rfl (by decide) rfl rfl (Nat.le_of_ble_eq_true rfl) ?_
  intro p e s m below meth c C
  have iX2 : ∀ w ∈ u_ws RX2 TX2 12, w ∈ wsX5_isStretch := fun _ h => List.mem_cons_of_mem _ (List.mem_append_right _ (h))
  have iX5 : ∀ w ∈ u_ws RX5 TX5 10, w ∈ wsX5_isStretch := fun _ h => List.mem_cons_of_mem _ (List.mem_append_left _ (List.mem_append_right _ (h)))
  have k1 := C.2.2.2.2.1 (.fieldLink RX5 25 "PulpitRoads" "now" "LPulpitRoads$Road;") (List.mem_cons_of_mem _ (List.mem_append_left _ (List.mem_append_left _ (List.mem_of_getElem? (i := 0) rfl))))
  unfold fn_X5_isStretch at h
  refine pw_iload_n C dX5_isStretch_0 rfl 1 rfl ?_
  refine pw_if_lt (tgt := 19) C dX5_isStretch_1 (by decide) (fun c1 => ?_) (fun c1 => ?_)
  · have h := fn_pos c1 h
    refine pw_iconst (v := (0 : Int32)) C dX5_isStretch_19 (by decide) ?_
    obtain ⟨hz20, h⟩ := fn_bz_s h
    exact pw_zret C hz20 h dX5_isStretch_20
  · have h := fn_neg c1 h
    refine pw_iload_n C dX5_isStretch_4 rfl 1 rfl ?_
    refine pw_aload_n C dX5_isStretch_5 rfl 0 rfl ?_
    refine pw_get (v := .ref (gad G 4)) C iX5 (by decide) (pw_sh_0 _) rfl 2 (by decide) k1 rfl dX5_isStretch_6 ?_
    refine pw_getN (v := .int (μ 4 4)) C iX2 (pw_ltD pw_K4) (pw_shD pw_K4 _) rfl 4 (by decide) 11 rfl rfl dX5_isStretch_9 ?_
    refine pw_icmp_ge (tgt := 19) C dX5_isStretch_12 (by decide) (fun c12 => ?_) (fun c12 => ?_)
    · have h := fn_pos c12 h
      refine pw_iconst (v := (0 : Int32)) C dX5_isStretch_19 (by decide) ?_
      obtain ⟨hz20, h⟩ := fn_bz_s h
      exact pw_zret C hz20 h dX5_isStretch_20
    · have h := fn_neg c12 h
      refine pw_iconst (v := (1 : Int32)) C dX5_isStretch_15 (by decide) ?_
      refine pw_goto (tgt := 20) C dX5_isStretch_16 (by decide) ?_
      obtain ⟨hz20, h⟩ := fn_bz_s h
      exact pw_zret C hz20 h dX5_isStretch_20
set_option maxHeartbeats 4000000 in
set_option maxRecDepth 100000 in
theorem ct_X5_put (l : Launch) {G : pw_G} (hG : pw_Ok G) {a1 : Int32} {a2 : Int32}  {μ μ' : pw_Mem} {r : Int32} (h : fn_X5_put a1 a2 μ = some (r, μ')) : Met l yX5_put wsX5_put ({ frames := 2, cells := 0, slots := 0, locals := 63 }) (va_Pc [.ref (gad G 0), .int a1, .int a2] (pw_Pre G μ)) (va_Qi (fun (r1 : Int32) (u : pw_Mem) => r1 = r ∧ u = μ') (pw_B G) (gA G)) 0 0 (gA G) := by
  refine pw_met (lv := [(0, .ref (gad G 0)), (1, .int a1), (2, .int a2)]) (own := RX5) (cc := cX5_put) (maxL := 4) (ret := some .int) hG rfl (by decide) rfl rfl (Nat.le_of_ble_eq_true rfl) ?_
  intro p e s m below meth c C
  have iX2 : ∀ w ∈ u_ws RX2 TX2 12, w ∈ wsX5_put := fun _ h => List.mem_cons_of_mem _ (List.mem_append_left _ (List.mem_append_right _ (h)))
  have iX5 : ∀ w ∈ u_ws RX5 TX5 10, w ∈ wsX5_put := fun _ h => List.mem_cons_of_mem _ (List.mem_append_left _ (List.mem_append_left _ (List.mem_append_right _ (h))))
  have k1 := C.2.2.2.2.1 (.constant RX5 59 (-1000001)) (List.mem_cons_of_mem _ (List.mem_append_left _ (List.mem_append_left _ (List.mem_append_left _ (List.mem_of_getElem? (i := 0) rfl)))))
  have k14 := C.2.2.2.2.1 (.instanceMethod yX0_keep) (List.mem_cons_of_mem _ (List.mem_append_left _ (List.mem_append_left _ (List.mem_append_left _ (List.mem_of_getElem? (i := 13) rfl)))))
  have k15 := C.2.2.2.2.1 (.initialized RX0) (List.mem_cons_of_mem _ (List.mem_append_left _ (List.mem_append_left _ (List.mem_append_left _ (List.mem_of_getElem? (i := 14) rfl)))))
  have k16 := C.2.2.2.2.1 (.selects RX0 yX0_keep yX0_keep) (List.mem_cons_of_mem _ (List.mem_append_left _ (List.mem_append_left _ (List.mem_append_left _ (List.mem_of_getElem? (i := 15) rfl)))))
  have k2 := C.2.2.2.2.1 (.fieldLink RX5 25 "PulpitRoads" "now" "LPulpitRoads$Road;") (List.mem_cons_of_mem _ (List.mem_append_left _ (List.mem_append_left _ (List.mem_append_left _ (List.mem_of_getElem? (i := 1) rfl)))))
  have k3 := C.2.2.2.2.1 (.constant RX5 131 (-1000002)) (List.mem_cons_of_mem _ (List.mem_append_left _ (List.mem_append_left _ (List.mem_append_left _ (List.mem_of_getElem? (i := 2) rfl)))))
  have k4 := C.2.2.2.2.1 (.fieldLink RX5 43 "PulpitRoads" "acts" "LPulpitRoads$Acts;") (List.mem_cons_of_mem _ (List.mem_append_left _ (List.mem_append_left _ (List.mem_append_left _ (List.mem_of_getElem? (i := 3) rfl)))))
  have nm12 : va_Nw (.methodLinkNest RX5 135 yX0_keep "PulpitRoads") s := C.2.2.2.2.2.2.2.1.2.1.2 ("PulpitRoads", 135, ⟨"PulpitRoads$Acts", "keep", "(LPulpitRoads$Road;)V"⟩, "PulpitRoads") (List.mem_of_getElem? (i := 12) rfl)
  unfold fn_X5_put at h
  refine pw_aload_n C dX5_put_0 rfl 0 rfl ?_
  refine pw_iload_n C dX5_put_1 rfl 1 rfl ?_
  obtain ⟨r2, m2, hc2, h⟩ := fn_bi_s h
  refine pw_callVi (rest := []) C (by decide) (pw_sh_0 _) rfl (ct_X5_isPulpit l C.2.2.2.2.2.2.2.2 hc2) (cwV 1 C.2.2.2.2.1 gX5_put_X5_isPulpit rfl rfl rfl (by decide +kernel) ⟨Nat.le_of_ble_eq_true rfl, Nat.le_of_ble_eq_true rfl⟩) rfl rfl (Nat.le_of_ble_eq_true rfl) dX5_put_2 ?_
  refine pw_if_eq (tgt := 16) C dX5_put_5 (by decide) (fun c5 => ?_) (fun c5 => ?_)
  · have h := fn_pos c5 h
    refine pw_ldc C k1 dX5_put_16 ?_
    exact pw_iret C h dX5_put_18
  · have h := fn_neg c5 h
    refine pw_aload_n C dX5_put_8 rfl 0 rfl ?_
    refine pw_iload_n C dX5_put_9 rfl 2 rfl ?_
    obtain ⟨r10, m10, hc10, h⟩ := fn_bi_s h
    refine pw_callVi (rest := []) C (by decide) (pw_sh_0 _) rfl (ct_X5_isStretch l C.2.2.2.2.2.2.2.2 hc10) (cwV 1 C.2.2.2.2.1 gX5_put_X5_isStretch rfl rfl rfl (by decide +kernel) ⟨Nat.le_of_ble_eq_true rfl, Nat.le_of_ble_eq_true rfl⟩) rfl rfl (Nat.le_of_ble_eq_true rfl) dX5_put_10 ?_
    refine pw_if_ne (tgt := 19) C dX5_put_13 (by decide) (fun c13 => ?_) (fun c13 => ?_)
    · have h := fn_pos c13 h
      refine pw_aload_n C dX5_put_19 rfl 0 rfl ?_
      refine pw_get (v := .ref (gad G 4)) C iX5 (by decide) (pw_sh_0 _) rfl 2 (by decide) k2 rfl dX5_put_20 ?_
      refine pw_getN (v := .ref (gad G (4 + 4))) C iX2 (pw_ltD pw_K4) (pw_shD pw_K4 _) rfl 9 (by decide) 24 rfl rfl dX5_put_23 ?_
      refine pw_iload_n C dX5_put_26 rfl 1 rfl ?_
      obtain ⟨hi27, h⟩ := fn_ix_s h
      refine pw_iald C (pw_ltD6 pw_K4 4 (by decide)) ((pw_shD4 pw_K4) _) hi27 dX5_put_27 ?_
      refine pw_istore_n (lv' := [(3, .int (m10 (4 + 4) (a1).toNatClampNeg)), (0, .ref (gad G 0)), (1, .int a1), (2, .int a2)]) C dX5_put_28 rfl (by decide) rfl ?_
      refine pw_iload_n C dX5_put_29 rfl 0 rfl ?_
      refine pw_iload_n C dX5_put_30 rfl 3 rfl ?_
      refine pw_icmp_ne (tgt := 37) C dX5_put_31 (by decide) (fun c31 => ?_) (fun c31 => ?_)
      · have h := fn_pos c31 h
        refine pw_aload_n C dX5_put_37 rfl 1 rfl ?_
        refine pw_get (v := .ref (gad G 20)) C iX5 (by decide) (pw_sh_0 _) rfl 6 (by decide) k4 rfl dX5_put_38 ?_
        refine pw_aload_n C dX5_put_41 rfl 1 rfl ?_
        refine pw_get (v := .ref (gad G 4)) C iX5 (by decide) (pw_sh_0 _) rfl 2 (by decide) k2 rfl dX5_put_42 ?_
        obtain ⟨m45, hc45, h⟩ := fn_bv_s h
        refine pw_callVNv (rest := []) C (by decide) (pw_sh_20 _) rfl (ct_X0_keep l C.2.2.2.2.2.2.2.2 pw_K4 hc45) ⟨va_cnB 1 C.2.2.2.2.1 gX5_put_X0_keep_n135 rfl rfl rfl nm12 k15 (by decide +kernel) ⟨Nat.le_of_ble_eq_true rfl, Nat.le_of_ble_eq_true rfl⟩, k14, k16⟩ rfl rfl (Nat.le_of_ble_eq_true rfl) dX5_put_45 ?_
        refine pw_aload_n C dX5_put_48 rfl 1 rfl ?_
        refine pw_get (v := .ref (gad G 4)) C iX5 (by decide) (pw_sh_0 _) rfl 2 (by decide) k2 rfl dX5_put_49 ?_
        refine pw_getN (v := .ref (gad G (4 + 4))) C iX2 (pw_ltD pw_K4) (pw_shD pw_K4 _) rfl 9 (by decide) 24 rfl rfl dX5_put_52 ?_
        refine pw_iload_n C dX5_put_55 rfl 2 rfl ?_
        refine pw_iload_n C dX5_put_56 rfl 3 rfl ?_
        obtain ⟨hi57, h⟩ := fn_ix_s h
        refine pw_iast C (pw_ltD6 pw_K4 4 (by decide)) (pw_shD4 pw_K4) hi57 dX5_put_57 ?_
        refine pw_iload_n C dX5_put_58 rfl 0 rfl ?_
        exact pw_iret C h dX5_put_59
      · have h := fn_neg c31 h
        refine pw_ldc C k3 dX5_put_34 ?_
        exact pw_iret C h dX5_put_36
    · have h := fn_neg c13 h
      refine pw_ldc C k1 dX5_put_16 ?_
      exact pw_iret C h dX5_put_18
set_option maxHeartbeats 4000000 in
set_option maxRecDepth 100000 in
theorem ct_X5_isWord (l : Launch) {G : pw_G} (hG : pw_Ok G) {a1 : Int32}  {μ μ' : pw_Mem} {r : Int32} (h : fn_X5_isWord a1 μ = some (r, μ')) : Met l yX5_isWord wsX5_isWord ({ frames := 0, cells := 0, slots := 0, locals := 0 }) (va_Pc [.ref (gad G 0), .int a1] (pw_Pre G μ)) (va_Qi (fun (r1 : Int32) (u : pw_Mem) => r1 = r ∧ u = μ') (pw_B G) (gA G)) 0 0 (gA G) := by
  refine pw_met (lv := [(0, .ref (gad G 0)), (1, .int a1)]) (own := RX5) (cc := cX5_isWord) (maxL := 2) (ret := some .boolean) hG rfl (by decide) rfl rfl (Nat.le_of_ble_eq_true rfl) ?_
  intro p e s m below meth c C
  have iX2 : ∀ w ∈ u_ws RX2 TX2 12, w ∈ wsX5_isWord := fun _ h => List.mem_cons_of_mem _ (List.mem_append_right _ (h))
  have iX5 : ∀ w ∈ u_ws RX5 TX5 10, w ∈ wsX5_isWord := fun _ h => List.mem_cons_of_mem _ (List.mem_append_left _ (List.mem_append_right _ (h)))
  have k1 := C.2.2.2.2.1 (.fieldLink RX5 25 "PulpitRoads" "now" "LPulpitRoads$Road;") (List.mem_cons_of_mem _ (List.mem_append_left _ (List.mem_append_left _ (List.mem_of_getElem? (i := 0) rfl))))
  unfold fn_X5_isWord at h
  refine pw_iload_n C dX5_isWord_0 rfl 1 rfl ?_
  refine pw_if_lt (tgt := 19) C dX5_isWord_1 (by decide) (fun c1 => ?_) (fun c1 => ?_)
  · have h := fn_pos c1 h
    refine pw_iconst (v := (0 : Int32)) C dX5_isWord_19 (by decide) ?_
    obtain ⟨hz20, h⟩ := fn_bz_s h
    exact pw_zret C hz20 h dX5_isWord_20
  · have h := fn_neg c1 h
    refine pw_iload_n C dX5_isWord_4 rfl 1 rfl ?_
    refine pw_aload_n C dX5_isWord_5 rfl 0 rfl ?_
    refine pw_get (v := .ref (gad G 4)) C iX5 (by decide) (pw_sh_0 _) rfl 2 (by decide) k1 rfl dX5_isWord_6 ?_
    refine pw_getN (v := .int (μ 4 1)) C iX2 (pw_ltD pw_K4) (pw_shD pw_K4 _) rfl 1 (by decide) 5 rfl rfl dX5_isWord_9 ?_
    refine pw_icmp_ge (tgt := 19) C dX5_isWord_12 (by decide) (fun c12 => ?_) (fun c12 => ?_)
    · have h := fn_pos c12 h
      refine pw_iconst (v := (0 : Int32)) C dX5_isWord_19 (by decide) ?_
      obtain ⟨hz20, h⟩ := fn_bz_s h
      exact pw_zret C hz20 h dX5_isWord_20
    · have h := fn_neg c12 h
      refine pw_iconst (v := (1 : Int32)) C dX5_isWord_15 (by decide) ?_
      refine pw_goto (tgt := 20) C dX5_isWord_16 (by decide) ?_
      obtain ⟨hz20, h⟩ := fn_bz_s h
      exact pw_zret C hz20 h dX5_isWord_20
set_option maxHeartbeats 4000000 in
set_option maxRecDepth 100000 in
theorem ct_X5_skip (l : Launch) {G : pw_G} (hG : pw_Ok G) {a1 : Int32} {a2 : Int32}  {μ μ' : pw_Mem} {r : Int32} (h : fn_X5_skip a1 a2 μ = some (r, μ')) : Met l yX5_skip wsX5_skip ({ frames := 2, cells := 0, slots := 0, locals := 63 }) (va_Pc [.ref (gad G 0), .int a1, .int a2] (pw_Pre G μ)) (va_Qi (fun (r1 : Int32) (u : pw_Mem) => r1 = r ∧ u = μ') (pw_B G) (gA G)) 0 0 (gA G) := by
  refine pw_met (lv := [(0, .ref (gad G 0)), (1, .int a1), (2, .int a2)]) (own := RX5) (cc := cX5_skip) (maxL := 4) (ret := some .int) hG rfl (by decide) rfl rfl (Nat.le_of_ble_eq_true rfl) ?_
  intro p e s m below meth c C
  have iX2 : ∀ w ∈ u_ws RX2 TX2 12, w ∈ wsX5_skip := fun _ h => List.mem_cons_of_mem _ (List.mem_append_left _ (List.mem_append_right _ (h)))
  have iX5 : ∀ w ∈ u_ws RX5 TX5 10, w ∈ wsX5_skip := fun _ h => List.mem_cons_of_mem _ (List.mem_append_left _ (List.mem_append_left _ (List.mem_append_right _ (h))))
  have k1 := C.2.2.2.2.1 (.constant RX5 59 (-1000001)) (List.mem_cons_of_mem _ (List.mem_append_left _ (List.mem_append_left _ (List.mem_append_left _ (List.mem_of_getElem? (i := 0) rfl)))))
  have k13 := C.2.2.2.2.1 (.instanceMethod yX0_keep) (List.mem_cons_of_mem _ (List.mem_append_left _ (List.mem_append_left _ (List.mem_append_left _ (List.mem_of_getElem? (i := 12) rfl)))))
  have k14 := C.2.2.2.2.1 (.initialized RX0) (List.mem_cons_of_mem _ (List.mem_append_left _ (List.mem_append_left _ (List.mem_append_left _ (List.mem_of_getElem? (i := 13) rfl)))))
  have k15 := C.2.2.2.2.1 (.selects RX0 yX0_keep yX0_keep) (List.mem_cons_of_mem _ (List.mem_append_left _ (List.mem_append_left _ (List.mem_append_left _ (List.mem_of_getElem? (i := 14) rfl)))))
  have k2 := C.2.2.2.2.1 (.fieldLink RX5 25 "PulpitRoads" "now" "LPulpitRoads$Road;") (List.mem_cons_of_mem _ (List.mem_append_left _ (List.mem_append_left _ (List.mem_append_left _ (List.mem_of_getElem? (i := 1) rfl)))))
  have k3 := C.2.2.2.2.1 (.fieldLink RX5 43 "PulpitRoads" "acts" "LPulpitRoads$Acts;") (List.mem_cons_of_mem _ (List.mem_append_left _ (List.mem_append_left _ (List.mem_append_left _ (List.mem_of_getElem? (i := 2) rfl)))))
  have nm12 : va_Nw (.methodLinkNest RX5 135 yX0_keep "PulpitRoads") s := C.2.2.2.2.2.2.2.1.2.1.2 ("PulpitRoads", 135, ⟨"PulpitRoads$Acts", "keep", "(LPulpitRoads$Road;)V"⟩, "PulpitRoads") (List.mem_of_getElem? (i := 12) rfl)
  unfold fn_X5_skip at h
  refine pw_aload_n C dX5_skip_0 rfl 0 rfl ?_
  refine pw_iload_n C dX5_skip_1 rfl 1 rfl ?_
  obtain ⟨r2, m2, hc2, h⟩ := fn_bi_s h
  refine pw_callVi (rest := []) C (by decide) (pw_sh_0 _) rfl (ct_X5_isPulpit l C.2.2.2.2.2.2.2.2 hc2) (cwV 1 C.2.2.2.2.1 gX5_skip_X5_isPulpit rfl rfl rfl (by decide +kernel) ⟨Nat.le_of_ble_eq_true rfl, Nat.le_of_ble_eq_true rfl⟩) rfl rfl (Nat.le_of_ble_eq_true rfl) dX5_skip_2 ?_
  refine pw_if_eq (tgt := 16) C dX5_skip_5 (by decide) (fun c5 => ?_) (fun c5 => ?_)
  · have h := fn_pos c5 h
    refine pw_ldc C k1 dX5_skip_16 ?_
    exact pw_iret C h dX5_skip_18
  · have h := fn_neg c5 h
    refine pw_aload_n C dX5_skip_8 rfl 0 rfl ?_
    refine pw_iload_n C dX5_skip_9 rfl 2 rfl ?_
    obtain ⟨r10, m10, hc10, h⟩ := fn_bi_s h
    refine pw_callVi (rest := []) C (by decide) (pw_sh_0 _) rfl (ct_X5_isWord l C.2.2.2.2.2.2.2.2 hc10) (cwV 1 C.2.2.2.2.1 gX5_skip_X5_isWord rfl rfl rfl (by decide +kernel) ⟨Nat.le_of_ble_eq_true rfl, Nat.le_of_ble_eq_true rfl⟩) rfl rfl (Nat.le_of_ble_eq_true rfl) dX5_skip_10 ?_
    refine pw_if_ne (tgt := 19) C dX5_skip_13 (by decide) (fun c13 => ?_) (fun c13 => ?_)
    · have h := fn_pos c13 h
      refine pw_aload_n C dX5_skip_19 rfl 0 rfl ?_
      refine pw_get (v := .ref (gad G 4)) C iX5 (by decide) (pw_sh_0 _) rfl 2 (by decide) k2 rfl dX5_skip_20 ?_
      refine pw_getN (v := .ref (gad G (4 + 5))) C iX2 (pw_ltD pw_K4) (pw_shD pw_K4 _) rfl 10 (by decide) 28 rfl rfl dX5_skip_23 ?_
      refine pw_iload_n C dX5_skip_26 rfl 1 rfl ?_
      obtain ⟨hi27, h⟩ := fn_ix_s h
      refine pw_iald C (pw_ltD6 pw_K4 5 (by decide)) ((pw_shD5 pw_K4) _) hi27 dX5_skip_27 ?_
      refine pw_istore_n (lv' := [(3, .int (m10 (4 + 5) (a1).toNatClampNeg)), (0, .ref (gad G 0)), (1, .int a1), (2, .int a2)]) C dX5_skip_28 rfl (by decide) rfl ?_
      refine pw_aload_n C dX5_skip_29 rfl 1 rfl ?_
      refine pw_get (v := .ref (gad G 20)) C iX5 (by decide) (pw_sh_0 _) rfl 6 (by decide) k3 rfl dX5_skip_30 ?_
      refine pw_aload_n C dX5_skip_33 rfl 1 rfl ?_
      refine pw_get (v := .ref (gad G 4)) C iX5 (by decide) (pw_sh_0 _) rfl 2 (by decide) k2 rfl dX5_skip_34 ?_
      obtain ⟨m37, hc37, h⟩ := fn_bv_s h
      refine pw_callVNv (rest := []) C (by decide) (pw_sh_20 _) rfl (ct_X0_keep l C.2.2.2.2.2.2.2.2 pw_K4 hc37) ⟨va_cnB 1 C.2.2.2.2.1 gX5_skip_X0_keep_n135 rfl rfl rfl nm12 k14 (by decide +kernel) ⟨Nat.le_of_ble_eq_true rfl, Nat.le_of_ble_eq_true rfl⟩, k13, k15⟩ rfl rfl (Nat.le_of_ble_eq_true rfl) dX5_skip_37 ?_
      refine pw_aload_n C dX5_skip_40 rfl 1 rfl ?_
      refine pw_get (v := .ref (gad G 4)) C iX5 (by decide) (pw_sh_0 _) rfl 2 (by decide) k2 rfl dX5_skip_41 ?_
      refine pw_getN (v := .ref (gad G (4 + 5))) C iX2 (pw_ltD pw_K4) (pw_shD pw_K4 _) rfl 10 (by decide) 28 rfl rfl dX5_skip_44 ?_
      refine pw_iload_n C dX5_skip_47 rfl 2 rfl ?_
      refine pw_iload_n C dX5_skip_48 rfl 3 rfl ?_
      obtain ⟨hi49, h⟩ := fn_ix_s h
      refine pw_iast C (pw_ltD6 pw_K4 5 (by decide)) (pw_shD5 pw_K4) hi49 dX5_skip_49 ?_
      refine pw_iload_n C dX5_skip_50 rfl 0 rfl ?_
      exact pw_iret C h dX5_skip_51
    · have h := fn_neg c13 h
      refine pw_ldc C k1 dX5_skip_16 ?_
      exact pw_iret C h dX5_skip_18
set_option maxHeartbeats 4000000 in
set_option maxRecDepth 100000 in
theorem ct_X5_forget (l : Launch) {G : pw_G} (hG : pw_Ok G) {a1 : Int32}  {μ μ' : pw_Mem} {r : Int32} (h : fn_X5_forget a1 μ = some (r, μ')) : Met l yX5_forget wsX5_forget ({ frames := 2, cells := 0, slots := 0, locals := 63 }) (va_Pc [.ref (gad G 0), .int a1] (pw_Pre G μ)) (va_Qi (fun (r1 : Int32) (u : pw_Mem) => r1 = r ∧ u = μ') (pw_B G) (gA G)) 0 0 (gA G) := by
  refine pw_met (lv := [(0, .ref (gad G 0)), (1, .int a1)]) (own := RX5) (cc := cX5_forget) (maxL := 3) (ret := some .int) hG rfl (by decide) rfl rfl (Nat.le_of_ble_eq_true rfl) ?_
  intro p e s m below meth c C
  have iX2 : ∀ w ∈ u_ws RX2 TX2 12, w ∈ wsX5_forget := fun _ h => List.mem_cons_of_mem _ (List.mem_append_left _ (List.mem_append_right _ (h)))
  have iX5 : ∀ w ∈ u_ws RX5 TX5 10, w ∈ wsX5_forget := fun _ h => List.mem_cons_of_mem _ (List.mem_append_left _ (List.mem_append_left _ (List.mem_append_right _ (h))))
  have k1 := C.2.2.2.2.1 (.constant RX5 59 (-1000001)) (List.mem_cons_of_mem _ (List.mem_append_left _ (List.mem_append_left _ (List.mem_append_left _ (List.mem_append_left _ (List.mem_of_getElem? (i := 0) rfl))))))
  have k17 := C.2.2.2.2.1 (.instanceMethod yX0_keep) (List.mem_cons_of_mem _ (List.mem_append_left _ (List.mem_append_left _ (List.mem_append_left _ (List.mem_append_left _ (List.mem_of_getElem? (i := 16) rfl))))))
  have k18 := C.2.2.2.2.1 (.initialized RX0) (List.mem_cons_of_mem _ (List.mem_append_left _ (List.mem_append_left _ (List.mem_append_left _ (List.mem_append_left _ (List.mem_of_getElem? (i := 17) rfl))))))
  have k19 := C.2.2.2.2.1 (.selects RX0 yX0_keep yX0_keep) (List.mem_cons_of_mem _ (List.mem_append_left _ (List.mem_append_left _ (List.mem_append_left _ (List.mem_append_left _ (List.mem_of_getElem? (i := 18) rfl))))))
  have k2 := C.2.2.2.2.1 (.fieldLink RX5 25 "PulpitRoads" "now" "LPulpitRoads$Road;") (List.mem_cons_of_mem _ (List.mem_append_left _ (List.mem_append_left _ (List.mem_append_left _ (List.mem_append_left _ (List.mem_of_getElem? (i := 1) rfl))))))
  have k3 := C.2.2.2.2.1 (.constant RX5 131 (-1000002)) (List.mem_cons_of_mem _ (List.mem_append_left _ (List.mem_append_left _ (List.mem_append_left _ (List.mem_append_left _ (List.mem_of_getElem? (i := 2) rfl))))))
  have k4 := C.2.2.2.2.1 (.fieldLink RX5 43 "PulpitRoads" "acts" "LPulpitRoads$Acts;") (List.mem_cons_of_mem _ (List.mem_append_left _ (List.mem_append_left _ (List.mem_append_left _ (List.mem_append_left _ (List.mem_of_getElem? (i := 3) rfl))))))
  have nm12 : va_Nw (.methodLinkNest RX5 135 yX0_keep "PulpitRoads") s := C.2.2.2.2.2.2.2.1.2.1.2 ("PulpitRoads", 135, ⟨"PulpitRoads$Acts", "keep", "(LPulpitRoads$Road;)V"⟩, "PulpitRoads") (List.mem_of_getElem? (i := 12) rfl)
  unfold fn_X5_forget at h
  refine pw_aload_n C dX5_forget_0 rfl 0 rfl ?_
  refine pw_iload_n C dX5_forget_1 rfl 1 rfl ?_
  obtain ⟨r2, m2, hc2, h⟩ := fn_bi_s h
  refine pw_callVi (rest := []) C (by decide) (pw_sh_0 _) rfl (ct_X5_isStretch l C.2.2.2.2.2.2.2.2 hc2) (cwV 1 C.2.2.2.2.1 gX5_forget_X5_isStretch rfl rfl rfl (by decide +kernel) ⟨Nat.le_of_ble_eq_true rfl, Nat.le_of_ble_eq_true rfl⟩) rfl rfl (Nat.le_of_ble_eq_true rfl) dX5_forget_2 ?_
  refine pw_if_ne (tgt := 11) C dX5_forget_5 (by decide) (fun c5 => ?_) (fun c5 => ?_)
  · have h := fn_pos c5 h
    refine pw_aload_n C dX5_forget_11 rfl 0 rfl ?_
    refine pw_get (v := .ref (gad G 4)) C iX5 (by decide) (pw_sh_0 _) rfl 2 (by decide) k2 rfl dX5_forget_12 ?_
    refine pw_getN (v := .ref (gad G (4 + 2))) C iX2 (pw_ltD pw_K4) (pw_shD pw_K4 _) rfl 7 (by decide) 17 rfl rfl dX5_forget_15 ?_
    refine pw_iload_n C dX5_forget_18 rfl 1 rfl ?_
    obtain ⟨hi19, h⟩ := fn_ix_s h
    refine pw_iald C (pw_ltD6 pw_K4 2 (by decide)) ((pw_shD2 pw_K4) _) hi19 dX5_forget_19 ?_
    obtain ⟨r20, m20, hc20, h⟩ := fn_bi_s h
    refine pw_callSi (rest := []) C (ct_J6_bitCount_0f7a4 l C.2.2.2.2.2.2.2.2 hc20) (va_cwS 1 C.2.2.2.2.1 gX5_forget_J6_bitCount_0f7a4 rfl rfl rfl (by decide +kernel) ⟨Nat.le_of_ble_eq_true rfl, Nat.le_of_ble_eq_true rfl⟩) rfl rfl (Nat.le_of_ble_eq_true rfl) dX5_forget_20 ?_
    refine pw_istore_n (lv' := [(2, .int r20), (0, .ref (gad G 0)), (1, .int a1)]) C dX5_forget_23 rfl (by decide) rfl ?_
    refine pw_iload_n C dX5_forget_24 rfl 0 rfl ?_
    refine pw_if_ne (tgt := 31) C dX5_forget_25 (by decide) (fun c25 => ?_) (fun c25 => ?_)
    · have h := fn_pos c25 h
      refine pw_aload_n C dX5_forget_31 rfl 1 rfl ?_
      refine pw_get (v := .ref (gad G 20)) C iX5 (by decide) (pw_sh_0 _) rfl 6 (by decide) k4 rfl dX5_forget_32 ?_
      refine pw_aload_n C dX5_forget_35 rfl 1 rfl ?_
      refine pw_get (v := .ref (gad G 4)) C iX5 (by decide) (pw_sh_0 _) rfl 2 (by decide) k2 rfl dX5_forget_36 ?_
      obtain ⟨m39, hc39, h⟩ := fn_bv_s h
      refine pw_callVNv (rest := []) C (by decide) (pw_sh_20 _) rfl (ct_X0_keep l C.2.2.2.2.2.2.2.2 pw_K4 hc39) ⟨va_cnB 1 C.2.2.2.2.1 gX5_forget_X0_keep_n135 rfl rfl rfl nm12 k18 (by decide +kernel) ⟨Nat.le_of_ble_eq_true rfl, Nat.le_of_ble_eq_true rfl⟩, k17, k19⟩ rfl rfl (Nat.le_of_ble_eq_true rfl) dX5_forget_39 ?_
      refine pw_aload_n C dX5_forget_42 rfl 1 rfl ?_
      refine pw_get (v := .ref (gad G 4)) C iX5 (by decide) (pw_sh_0 _) rfl 2 (by decide) k2 rfl dX5_forget_43 ?_
      refine pw_getN (v := .ref (gad G (4 + 2))) C iX2 (pw_ltD pw_K4) (pw_shD pw_K4 _) rfl 7 (by decide) 17 rfl rfl dX5_forget_46 ?_
      refine pw_iload_n C dX5_forget_49 rfl 2 rfl ?_
      refine pw_iconst (v := (0 : Int32)) C dX5_forget_50 (by decide) ?_
      obtain ⟨hi51, h⟩ := fn_ix_s h
      refine pw_iast C (pw_ltD6 pw_K4 2 (by decide)) (pw_shD2 pw_K4) hi51 dX5_forget_51 ?_
      refine pw_iload_n C dX5_forget_52 rfl 0 rfl ?_
      exact pw_iret C h dX5_forget_53
    · have h := fn_neg c25 h
      refine pw_ldc C k3 dX5_forget_28 ?_
      exact pw_iret C h dX5_forget_30
  · have h := fn_neg c5 h
    refine pw_ldc C k1 dX5_forget_8 ?_
    exact pw_iret C h dX5_forget_10
set_option maxHeartbeats 4000000 in
set_option maxRecDepth 100000 in
theorem ct_X5_undo (l : Launch) {G : pw_G} (hG : pw_Ok G)   {μ μ' : pw_Mem} {r : Int32} (h : fn_X5_undo μ = some (r, μ')) : Met l yX5_undo wsX5_undo ({ frames := 1, cells := 0, slots := 0, locals := 23 }) (va_Pc [.ref (gad G 0)] (pw_Pre G μ)) (va_Qi (fun (r1 : Int32) (u : pw_Mem) => r1 = r ∧ u = μ') (pw_B G) (gA G)) 0 0 (gA G) := by
  refine pw_met (lv := [(0, .ref (gad G 0))]) (own := RX5) (cc := cX5_undo) (maxL := 1) (ret := some .int) hG rfl (by decide) rfl rfl (Nat.le_of_ble_eq_true rfl) ?_
  intro p e s m below meth c C
  have iX0 : ∀ w ∈ u_ws RX0 TX0 3, w ∈ wsX5_undo := fun _ h => List.mem_cons_of_mem _ (List.mem_append_left _ (List.mem_append_right _ (h)))
  have iX5 : ∀ w ∈ u_ws RX5 TX5 10, w ∈ wsX5_undo := fun _ h => List.mem_cons_of_mem _ (List.mem_append_left _ (List.mem_append_left _ (List.mem_append_right _ (h))))
  have k1 := C.2.2.2.2.1 (.fieldLink RX5 43 "PulpitRoads" "acts" "LPulpitRoads$Acts;") (List.mem_cons_of_mem _ (List.mem_append_left _ (List.mem_append_left _ (List.mem_append_left _ (List.mem_of_getElem? (i := 0) rfl)))))
  have k2 := C.2.2.2.2.1 (.constant RX5 131 (-1000002)) (List.mem_cons_of_mem _ (List.mem_append_left _ (List.mem_append_left _ (List.mem_append_left _ (List.mem_of_getElem? (i := 1) rfl)))))
  have k3 := C.2.2.2.2.1 (.fieldLink RX5 25 "PulpitRoads" "now" "LPulpitRoads$Road;") (List.mem_cons_of_mem _ (List.mem_append_left _ (List.mem_append_left _ (List.mem_append_left _ (List.mem_of_getElem? (i := 2) rfl)))))
  have k4 := C.2.2.2.2.1 (.instanceMethod yX0_giveBack) (List.mem_cons_of_mem _ (List.mem_append_left _ (List.mem_append_left _ (List.mem_append_left _ (List.mem_of_getElem? (i := 3) rfl)))))
  have k5 := C.2.2.2.2.1 (.initialized RX0) (List.mem_cons_of_mem _ (List.mem_append_left _ (List.mem_append_left _ (List.mem_append_left _ (List.mem_of_getElem? (i := 4) rfl)))))
  have k6 := C.2.2.2.2.1 (.selects RX0 yX0_giveBack yX0_giveBack) (List.mem_cons_of_mem _ (List.mem_append_left _ (List.mem_append_left _ (List.mem_append_left _ (List.mem_of_getElem? (i := 5) rfl)))))
  have nm15 : va_Nw (.methodLinkNest RX5 168 yX0_giveBack "PulpitRoads") s := C.2.2.2.2.2.2.2.1.2.1.2 ("PulpitRoads", 168, ⟨"PulpitRoads$Acts", "giveBack", "(LPulpitRoads$Road;)V"⟩, "PulpitRoads") (List.mem_of_getElem? (i := 15) rfl)
  unfold fn_X5_undo at h
  refine pw_aload_n C dX5_undo_0 rfl 0 rfl ?_
  refine pw_get (v := .ref (gad G 20)) C iX5 (by decide) (pw_sh_0 _) rfl 6 (by decide) k1 rfl dX5_undo_1 ?_
  refine pw_getN (v := .int (μ 20 1)) C iX0 (by decide) (pw_sh_20 _) rfl 1 (by decide) 30 rfl rfl dX5_undo_4 ?_
  refine pw_if_ne (tgt := 13) C dX5_undo_7 (by decide) (fun c7 => ?_) (fun c7 => ?_)
  · have h := fn_pos c7 h
    refine pw_aload_n C dX5_undo_13 rfl 0 rfl ?_
    refine pw_get (v := .ref (gad G 20)) C iX5 (by decide) (pw_sh_0 _) rfl 6 (by decide) k1 rfl dX5_undo_14 ?_
    refine pw_aload_n C dX5_undo_17 rfl 0 rfl ?_
    refine pw_get (v := .ref (gad G 4)) C iX5 (by decide) (pw_sh_0 _) rfl 2 (by decide) k3 rfl dX5_undo_18 ?_
    obtain ⟨m21, hc21, h⟩ := fn_bv_s h
    refine pw_callVNv (rest := []) C (by decide) (pw_sh_20 _) rfl (ct_X0_giveBack l C.2.2.2.2.2.2.2.2 pw_K4 hc21) ⟨va_cnB 1 C.2.2.2.2.1 gX5_undo_X0_giveBack_n168 rfl rfl rfl nm15 k5 (by decide +kernel) ⟨Nat.le_of_ble_eq_true rfl, Nat.le_of_ble_eq_true rfl⟩, k4, k6⟩ rfl rfl (Nat.le_of_ble_eq_true rfl) dX5_undo_21 ?_
    refine pw_aload_n C dX5_undo_24 rfl 0 rfl ?_
    refine pw_get (v := .ref (gad G 20)) C iX5 (by decide) (pw_sh_0 _) rfl 6 (by decide) k1 rfl dX5_undo_25 ?_
    refine pw_getN (v := .int (m21 20 1)) C iX0 (by decide) (pw_sh_20 _) rfl 1 (by decide) 30 rfl rfl dX5_undo_28 ?_
    exact pw_iret C h dX5_undo_31
  · have h := fn_neg c7 h
    refine pw_ldc C k2 dX5_undo_10 ?_
    exact pw_iret C h dX5_undo_12
set_option maxHeartbeats 4000000 in
set_option maxRecDepth 100000 in
theorem ct_X5_pulpit (l : Launch) {G : pw_G} (hG : pw_Ok G) {a1 : Int32} {a2 : Int32}  {μ μ' : pw_Mem} {r : Int32} (h : fn_X5_pulpit a1 a2 μ = some (r, μ')) : Met l yX5_pulpit wsX5_pulpit ({ frames := 2, cells := 0, slots := 0, locals := 46 }) (va_Pc [.ref (gad G 0), .int a1, .int a2] (pw_Pre G μ)) (va_Qi (fun (r1 : Int32) (u : pw_Mem) => r1 = r ∧ u = μ') (pw_B G) (gA G)) 0 0 (gA G) := by
  refine pw_met (lv := [(0, .ref (gad G 0)), (1, .int a1), (2, .int a2)]) (own := RX5) (cc := cX5_pulpit) (maxL := 3) (ret := some .int) hG rfl (by decide) rfl rfl (Nat.le_of_ble_eq_true rfl) ?_
  intro p e s m below meth c C
  have iX2 : ∀ w ∈ u_ws RX2 TX2 12, w ∈ wsX5_pulpit := fun _ h => List.mem_cons_of_mem _ (List.mem_append_right _ (h))
  have iX5 : ∀ w ∈ u_ws RX5 TX5 10, w ∈ wsX5_pulpit := fun _ h => List.mem_cons_of_mem _ (List.mem_append_left _ (List.mem_append_right _ (h)))
  have k1 := C.2.2.2.2.1 (.constant RX5 59 (-1000001)) (List.mem_cons_of_mem _ (List.mem_append_left _ (List.mem_append_left _ (List.mem_of_getElem? (i := 0) rfl))))
  have k10 := C.2.2.2.2.1 (.selects RX2 yX2_councils yX2_councils) (List.mem_cons_of_mem _ (List.mem_append_left _ (List.mem_append_left _ (List.mem_of_getElem? (i := 9) rfl))))
  have k14 := C.2.2.2.2.1 (.instanceMethod yX2_sayings) (List.mem_cons_of_mem _ (List.mem_append_left _ (List.mem_append_left _ (List.mem_of_getElem? (i := 13) rfl))))
  have k15 := C.2.2.2.2.1 (.selects RX2 yX2_sayings yX2_sayings) (List.mem_cons_of_mem _ (List.mem_append_left _ (List.mem_append_left _ (List.mem_of_getElem? (i := 14) rfl))))
  have k2 := C.2.2.2.2.1 (.fieldLink RX5 25 "PulpitRoads" "now" "LPulpitRoads$Road;") (List.mem_cons_of_mem _ (List.mem_append_left _ (List.mem_append_left _ (List.mem_of_getElem? (i := 1) rfl))))
  have k8 := C.2.2.2.2.1 (.instanceMethod yX2_councils) (List.mem_cons_of_mem _ (List.mem_append_left _ (List.mem_append_left _ (List.mem_of_getElem? (i := 7) rfl))))
  have k9 := C.2.2.2.2.1 (.initialized RX2) (List.mem_cons_of_mem _ (List.mem_append_left _ (List.mem_append_left _ (List.mem_of_getElem? (i := 8) rfl))))
  have nm16 : va_Nw (.methodLinkNest RX5 171 yX2_councils "PulpitRoads") s := C.2.2.2.2.2.2.2.1.2.1.2 ("PulpitRoads", 171, ⟨"PulpitRoads$Road", "councils", "()I"⟩, "PulpitRoads") (List.mem_of_getElem? (i := 16) rfl)
  have nm17 : va_Nw (.methodLinkNest RX5 174 yX2_sayings "PulpitRoads") s := C.2.2.2.2.2.2.2.1.2.1.2 ("PulpitRoads", 174, ⟨"PulpitRoads$Road", "sayings", "(I)I"⟩, "PulpitRoads") (List.mem_of_getElem? (i := 17) rfl)
  unfold fn_X5_pulpit at h
  refine pw_aload_n C dX5_pulpit_0 rfl 0 rfl ?_
  refine pw_iload_n C dX5_pulpit_1 rfl 1 rfl ?_
  obtain ⟨r2, m2, hc2, h⟩ := fn_bi_s h
  refine pw_callVi (rest := []) C (by decide) (pw_sh_0 _) rfl (ct_X5_isPulpit l C.2.2.2.2.2.2.2.2 hc2) (cwV 1 C.2.2.2.2.1 gX5_pulpit_X5_isPulpit rfl rfl rfl (by decide +kernel) ⟨Nat.le_of_ble_eq_true rfl, Nat.le_of_ble_eq_true rfl⟩) rfl rfl (Nat.le_of_ble_eq_true rfl) dX5_pulpit_2 ?_
  refine pw_if_ne (tgt := 11) C dX5_pulpit_5 (by decide) (fun c5 => ?_) (fun c5 => ?_)
  · have h := fn_pos c5 h
    refine pw_iload_n C dX5_pulpit_11 rfl 2 rfl ?_
    by_cases c12_0 : a2 = 0
    · have h := fn_pos c12_0 h
      refine pw_tabIn (tgt := 44) C 0 c12_0 dX5_pulpit_12 (by decide) (by decide) rfl (by decide) ?_
      refine pw_aload_n C dX5_pulpit_44 rfl 0 rfl ?_
      refine pw_get (v := .ref (gad G 4)) C iX5 (by decide) (pw_sh_0 _) rfl 2 (by decide) k2 rfl dX5_pulpit_45 ?_
      refine pw_getN (v := .ref (gad G (4 + 4))) C iX2 (pw_ltD pw_K4) (pw_shD pw_K4 _) rfl 9 (by decide) 24 rfl rfl dX5_pulpit_48 ?_
      refine pw_iload_n C dX5_pulpit_51 rfl 1 rfl ?_
      obtain ⟨hi52, h⟩ := fn_ix_s h
      refine pw_iald C (pw_ltD6 pw_K4 4 (by decide)) ((pw_shD4 pw_K4) _) hi52 dX5_pulpit_52 ?_
      exact pw_iret C h dX5_pulpit_53
    · have h := fn_neg c12_0 h
      have n12_0 := pw_neI c12_0 (show (0 : Int32).toInt = 0 by decide)
      by_cases c12_1 : a2 = 1
      · have h := fn_pos c12_1 h
        refine pw_tabIn (tgt := 54) C 1 c12_1 dX5_pulpit_12 (by decide) (by decide) rfl (by decide) ?_
        refine pw_aload_n C dX5_pulpit_54 rfl 0 rfl ?_
        refine pw_get (v := .ref (gad G 4)) C iX5 (by decide) (pw_sh_0 _) rfl 2 (by decide) k2 rfl dX5_pulpit_55 ?_
        refine pw_getN (v := .ref (gad G (4 + 5))) C iX2 (pw_ltD pw_K4) (pw_shD pw_K4 _) rfl 10 (by decide) 28 rfl rfl dX5_pulpit_58 ?_
        refine pw_iload_n C dX5_pulpit_61 rfl 1 rfl ?_
        obtain ⟨hi62, h⟩ := fn_ix_s h
        refine pw_iald C (pw_ltD6 pw_K4 5 (by decide)) ((pw_shD5 pw_K4) _) hi62 dX5_pulpit_62 ?_
        exact pw_iret C h dX5_pulpit_63
      · have h := fn_neg c12_1 h
        have n12_1 := pw_neI c12_1 (show (1 : Int32).toInt = 1 by decide)
        by_cases c12_2 : a2 = 2
        · have h := fn_pos c12_2 h
          refine pw_tabIn (tgt := 64) C 2 c12_2 dX5_pulpit_12 (by decide) (by decide) rfl (by decide) ?_
          refine pw_aload_n C dX5_pulpit_64 rfl 0 rfl ?_
          refine pw_get (v := .ref (gad G 4)) C iX5 (by decide) (pw_sh_0 _) rfl 2 (by decide) k2 rfl dX5_pulpit_65 ?_
          obtain ⟨r68, m68, hc68, h⟩ := fn_bi_s h
          refine pw_callVNi (rest := []) C (pw_ltD pw_K4) (pw_shD pw_K4 _) rfl (ct_X2_councils l C.2.2.2.2.2.2.2.2 pw_K4 hc68) ⟨va_cnB 0 C.2.2.2.2.1 gX5_pulpit_X2_councils_n171 rfl rfl rfl nm16 k9 (by decide +kernel) ⟨Nat.le_of_ble_eq_true rfl, Nat.le_of_ble_eq_true rfl⟩, k8, k10⟩ rfl rfl (Nat.le_of_ble_eq_true rfl) dX5_pulpit_68 ?_
          refine pw_iload_n C dX5_pulpit_71 rfl 1 rfl ?_
          refine pw_ishr C dX5_pulpit_72 ?_
          refine pw_iconst (v := (1 : Int32)) C dX5_pulpit_73 (by decide) ?_
          refine pw_iand C dX5_pulpit_74 ?_
          exact pw_iret C h dX5_pulpit_75
        · have h := fn_neg c12_2 h
          have n12_2 := pw_neI c12_2 (show (2 : Int32).toInt = 2 by decide)
          by_cases c12_3 : a2 = 3
          · have h := fn_pos c12_3 h
            refine pw_tabIn (tgt := 76) C 3 c12_3 dX5_pulpit_12 (by decide) (by decide) rfl (by decide) ?_
            refine pw_aload_n C dX5_pulpit_76 rfl 0 rfl ?_
            refine pw_get (v := .ref (gad G 4)) C iX5 (by decide) (pw_sh_0 _) rfl 2 (by decide) k2 rfl dX5_pulpit_77 ?_
            refine pw_iload_n C dX5_pulpit_80 rfl 1 rfl ?_
            obtain ⟨r81, m81, hc81, h⟩ := fn_bi_s h
            refine pw_callVNi (rest := []) C (pw_ltD pw_K4) (pw_shD pw_K4 _) rfl (ct_X2_sayings l C.2.2.2.2.2.2.2.2 pw_K4 hc81) ⟨va_cnB 1 C.2.2.2.2.1 gX5_pulpit_X2_sayings_n174 rfl rfl rfl nm17 k9 (by decide +kernel) ⟨Nat.le_of_ble_eq_true rfl, Nat.le_of_ble_eq_true rfl⟩, k14, k15⟩ rfl rfl (Nat.le_of_ble_eq_true rfl) dX5_pulpit_81 ?_
            exact pw_iret C h dX5_pulpit_84
          · have h := fn_neg c12_3 h
            have n12_3 := pw_neI c12_3 (show (3 : Int32).toInt = 3 by decide)
            refine pw_tabOut (tgt := 85) C dX5_pulpit_12 (by omega) (by decide) ?_
            refine pw_ldc C k1 dX5_pulpit_85 ?_
            exact pw_iret C h dX5_pulpit_87
  · have h := fn_neg c5 h
    refine pw_ldc C k1 dX5_pulpit_8 ?_
    exact pw_iret C h dX5_pulpit_10
set_option maxHeartbeats 4000000 in
set_option maxRecDepth 100000 in
theorem ct_X5_stretch (l : Launch) {G : pw_G} (hG : pw_Ok G) {a1 : Int32} {a2 : Int32}  {μ μ' : pw_Mem} {r : Int32} (h : fn_X5_stretch a1 a2 μ = some (r, μ')) : Met l yX5_stretch wsX5_stretch ({ frames := 1, cells := 0, slots := 0, locals := 23 }) (va_Pc [.ref (gad G 0), .int a1, .int a2] (pw_Pre G μ)) (va_Qi (fun (r1 : Int32) (u : pw_Mem) => r1 = r ∧ u = μ') (pw_B G) (gA G)) 0 0 (gA G) := by
  refine pw_met (lv := [(0, .ref (gad G 0)), (1, .int a1), (2, .int a2)]) (own := RX5) (cc := cX5_stretch) (maxL := 3) (ret := some .int) hG rfl (by decide) rfl rfl (Nat.le_of_ble_eq_true rfl) ?_
  intro p e s m below meth c C
  have iX2 : ∀ w ∈ u_ws RX2 TX2 12, w ∈ wsX5_stretch := fun _ h => List.mem_cons_of_mem _ (List.mem_append_right _ (h))
  have iX5 : ∀ w ∈ u_ws RX5 TX5 10, w ∈ wsX5_stretch := fun _ h => List.mem_cons_of_mem _ (List.mem_append_left _ (List.mem_append_right _ (h)))
  have k1 := C.2.2.2.2.1 (.constant RX5 59 (-1000001)) (List.mem_cons_of_mem _ (List.mem_append_left _ (List.mem_append_left _ (List.mem_of_getElem? (i := 0) rfl))))
  have k10 := C.2.2.2.2.1 (.selects RX2 yX2_pulpitsOn yX2_pulpitsOn) (List.mem_cons_of_mem _ (List.mem_append_left _ (List.mem_append_left _ (List.mem_of_getElem? (i := 9) rfl))))
  have k2 := C.2.2.2.2.1 (.fieldLink RX5 25 "PulpitRoads" "now" "LPulpitRoads$Road;") (List.mem_cons_of_mem _ (List.mem_append_left _ (List.mem_append_left _ (List.mem_of_getElem? (i := 1) rfl))))
  have k8 := C.2.2.2.2.1 (.instanceMethod yX2_pulpitsOn) (List.mem_cons_of_mem _ (List.mem_append_left _ (List.mem_append_left _ (List.mem_of_getElem? (i := 7) rfl))))
  have k9 := C.2.2.2.2.1 (.initialized RX2) (List.mem_cons_of_mem _ (List.mem_append_left _ (List.mem_append_left _ (List.mem_of_getElem? (i := 8) rfl))))
  have nm18 : va_Nw (.methodLinkNest RX5 180 yX2_pulpitsOn "PulpitRoads") s := C.2.2.2.2.2.2.2.1.2.1.2 ("PulpitRoads", 180, ⟨"PulpitRoads$Road", "pulpitsOn", "(I)I"⟩, "PulpitRoads") (List.mem_of_getElem? (i := 18) rfl)
  unfold fn_X5_stretch at h
  refine pw_aload_n C dX5_stretch_0 rfl 0 rfl ?_
  refine pw_iload_n C dX5_stretch_1 rfl 1 rfl ?_
  obtain ⟨r2, m2, hc2, h⟩ := fn_bi_s h
  refine pw_callVi (rest := []) C (by decide) (pw_sh_0 _) rfl (ct_X5_isStretch l C.2.2.2.2.2.2.2.2 hc2) (cwV 1 C.2.2.2.2.1 gX5_stretch_X5_isStretch rfl rfl rfl (by decide +kernel) ⟨Nat.le_of_ble_eq_true rfl, Nat.le_of_ble_eq_true rfl⟩) rfl rfl (Nat.le_of_ble_eq_true rfl) dX5_stretch_2 ?_
  refine pw_if_ne (tgt := 11) C dX5_stretch_5 (by decide) (fun c5 => ?_) (fun c5 => ?_)
  · have h := fn_pos c5 h
    refine pw_iload_n C dX5_stretch_11 rfl 2 rfl ?_
    by_cases c12_0 : a2 = 0
    · have h := fn_pos c12_0 h
      refine pw_tabIn (tgt := 40) C 0 c12_0 dX5_stretch_12 (by decide) (by decide) rfl (by decide) ?_
      refine pw_aload_n C dX5_stretch_40 rfl 0 rfl ?_
      refine pw_get (v := .ref (gad G 4)) C iX5 (by decide) (pw_sh_0 _) rfl 2 (by decide) k2 rfl dX5_stretch_41 ?_
      refine pw_getN (v := .ref (gad G (4 + 1))) C iX2 (pw_ltD pw_K4) (pw_shD pw_K4 _) rfl 6 (by decide) 15 rfl rfl dX5_stretch_44 ?_
      refine pw_iload_n C dX5_stretch_47 rfl 1 rfl ?_
      obtain ⟨hi48, h⟩ := fn_ix_s h
      refine pw_iald C (pw_ltD6 pw_K4 1 (by decide)) ((pw_shD1 pw_K4) _) hi48 dX5_stretch_48 ?_
      exact pw_iret C h dX5_stretch_49
    · have h := fn_neg c12_0 h
      have n12_0 := pw_neI c12_0 (show (0 : Int32).toInt = 0 by decide)
      by_cases c12_1 : a2 = 1
      · have h := fn_pos c12_1 h
        refine pw_tabIn (tgt := 50) C 1 c12_1 dX5_stretch_12 (by decide) (by decide) rfl (by decide) ?_
        refine pw_aload_n C dX5_stretch_50 rfl 0 rfl ?_
        refine pw_get (v := .ref (gad G 4)) C iX5 (by decide) (pw_sh_0 _) rfl 2 (by decide) k2 rfl dX5_stretch_51 ?_
        refine pw_getN (v := .ref (gad G (4 + 2))) C iX2 (pw_ltD pw_K4) (pw_shD pw_K4 _) rfl 7 (by decide) 17 rfl rfl dX5_stretch_54 ?_
        refine pw_iload_n C dX5_stretch_57 rfl 1 rfl ?_
        obtain ⟨hi58, h⟩ := fn_ix_s h
        refine pw_iald C (pw_ltD6 pw_K4 2 (by decide)) ((pw_shD2 pw_K4) _) hi58 dX5_stretch_58 ?_
        exact pw_iret C h dX5_stretch_59
      · have h := fn_neg c12_1 h
        have n12_1 := pw_neI c12_1 (show (1 : Int32).toInt = 1 by decide)
        by_cases c12_2 : a2 = 2
        · have h := fn_pos c12_2 h
          refine pw_tabIn (tgt := 60) C 2 c12_2 dX5_stretch_12 (by decide) (by decide) rfl (by decide) ?_
          refine pw_aload_n C dX5_stretch_60 rfl 0 rfl ?_
          refine pw_get (v := .ref (gad G 4)) C iX5 (by decide) (pw_sh_0 _) rfl 2 (by decide) k2 rfl dX5_stretch_61 ?_
          refine pw_iload_n C dX5_stretch_64 rfl 1 rfl ?_
          obtain ⟨r65, m65, hc65, h⟩ := fn_bi_s h
          refine pw_callVNi (rest := []) C (pw_ltD pw_K4) (pw_shD pw_K4 _) rfl (ct_X2_pulpitsOn l C.2.2.2.2.2.2.2.2 pw_K4 hc65) ⟨va_cnB 1 C.2.2.2.2.1 gX5_stretch_X2_pulpitsOn_n180 rfl rfl rfl nm18 k9 (by decide +kernel) ⟨Nat.le_of_ble_eq_true rfl, Nat.le_of_ble_eq_true rfl⟩, k8, k10⟩ rfl rfl (Nat.le_of_ble_eq_true rfl) dX5_stretch_65 ?_
          exact pw_iret C h dX5_stretch_68
        · have h := fn_neg c12_2 h
          have n12_2 := pw_neI c12_2 (show (2 : Int32).toInt = 2 by decide)
          refine pw_tabOut (tgt := 69) C dX5_stretch_12 (by omega) (by decide) ?_
          refine pw_ldc C k1 dX5_stretch_69 ?_
          exact pw_iret C h dX5_stretch_71
  · have h := fn_neg c5 h
    refine pw_ldc C k1 dX5_stretch_8 ?_
    exact pw_iret C h dX5_stretch_10
set_option maxHeartbeats 4000000 in
set_option maxRecDepth 100000 in
theorem ct_X5_foretell (l : Launch) {G : pw_G} (hG : pw_Ok G) {a1 : Int32}  {μ μ' : pw_Mem} (h : fn_X5_foretell a1 μ = some μ') : Met l yX5_foretell wsX5_foretell ({ frames := 5, cells := 0, slots := 0, locals := 113 }) (va_Pc [.ref (gad G 0), .int a1] (pw_Pre G μ)) (va_Qv (fun (u : pw_Mem) => u = μ') (pw_B G) (gA G)) 0 0 (gA G) := by
  refine pw_met (lv := [(0, .ref (gad G 0)), (1, .int a1)]) (own := RX5) (cc := cX5_foretell) (maxL := 2) (ret := none) hG rfl (by decide) rfl rfl (Nat.le_of_ble_eq_true rfl) ?_
  intro p e s m below meth c C
  have iX5 : ∀ w ∈ u_ws RX5 TX5 10, w ∈ wsX5_foretell := fun _ h => List.mem_cons_of_mem _ (List.mem_append_left _ (List.mem_append_right _ (h)))
  have k1 := C.2.2.2.2.1 (.fieldLink RX5 29 "PulpitRoads" "foretold" "LPulpitRoads$Road;") (List.mem_cons_of_mem _ (List.mem_append_left _ (List.mem_append_left _ (List.mem_append_left _ (List.mem_of_getElem? (i := 0) rfl)))))
  have k18 := C.2.2.2.2.1 (.instanceMethod yX2_goHours) (List.mem_cons_of_mem _ (List.mem_append_left _ (List.mem_append_left _ (List.mem_append_left _ (List.mem_of_getElem? (i := 17) rfl)))))
  have k19 := C.2.2.2.2.1 (.selects RX2 yX2_goHours yX2_goHours) (List.mem_cons_of_mem _ (List.mem_append_left _ (List.mem_append_left _ (List.mem_append_left _ (List.mem_of_getElem? (i := 18) rfl)))))
  have k2 := C.2.2.2.2.1 (.fieldLink RX5 25 "PulpitRoads" "now" "LPulpitRoads$Road;") (List.mem_cons_of_mem _ (List.mem_append_left _ (List.mem_append_left _ (List.mem_append_left _ (List.mem_of_getElem? (i := 1) rfl)))))
  have k3 := C.2.2.2.2.1 (.instanceMethod yX2_take) (List.mem_cons_of_mem _ (List.mem_append_left _ (List.mem_append_left _ (List.mem_append_left _ (List.mem_of_getElem? (i := 2) rfl)))))
  have k4 := C.2.2.2.2.1 (.initialized RX2) (List.mem_cons_of_mem _ (List.mem_append_left _ (List.mem_append_left _ (List.mem_append_left _ (List.mem_of_getElem? (i := 3) rfl)))))
  have k5 := C.2.2.2.2.1 (.selects RX2 yX2_take yX2_take) (List.mem_cons_of_mem _ (List.mem_append_left _ (List.mem_append_left _ (List.mem_append_left _ (List.mem_of_getElem? (i := 4) rfl)))))
  have nm11 : va_Nw (.methodLinkNest RX5 118 yX2_take "PulpitRoads") s := C.2.2.2.2.2.2.2.1.2.1.2 ("PulpitRoads", 118, ⟨"PulpitRoads$Road", "take", "(LPulpitRoads$Road;)V"⟩, "PulpitRoads") (List.mem_of_getElem? (i := 11) rfl)
  have nm19 : va_Nw (.methodLinkNest RX5 209 yX2_goHours "PulpitRoads") s := C.2.2.2.2.2.2.2.1.2.1.2 ("PulpitRoads", 209, ⟨"PulpitRoads$Road", "goHours", "(I)V"⟩, "PulpitRoads") (List.mem_of_getElem? (i := 19) rfl)
  unfold fn_X5_foretell at h
  refine pw_aload_n C dX5_foretell_0 rfl 0 rfl ?_
  refine pw_get (v := .ref (gad G 11)) C iX5 (by decide) (pw_sh_0 _) rfl 3 (by decide) k1 rfl dX5_foretell_1 ?_
  refine pw_aload_n C dX5_foretell_4 rfl 0 rfl ?_
  refine pw_get (v := .ref (gad G 4)) C iX5 (by decide) (pw_sh_0 _) rfl 2 (by decide) k2 rfl dX5_foretell_5 ?_
  obtain ⟨m8, hc8, h⟩ := fn_bv_s h
  refine pw_callVNv (rest := []) C (pw_ltD pw_K11) (pw_shD pw_K11 _) rfl (ct_X2_take l C.2.2.2.2.2.2.2.2 pw_K11 pw_K4 hc8) ⟨va_cnB 1 C.2.2.2.2.1 gX5_foretell_X2_take_n118 rfl rfl rfl nm11 k4 (by decide +kernel) ⟨Nat.le_of_ble_eq_true rfl, Nat.le_of_ble_eq_true rfl⟩, k3, k5⟩ rfl rfl (Nat.le_of_ble_eq_true rfl) dX5_foretell_8 ?_
  refine pw_aload_n C dX5_foretell_11 rfl 0 rfl ?_
  refine pw_get (v := .ref (gad G 11)) C iX5 (by decide) (pw_sh_0 _) rfl 3 (by decide) k1 rfl dX5_foretell_12 ?_
  refine pw_iload_n C dX5_foretell_15 rfl 1 rfl ?_
  obtain ⟨m16, hc16, h⟩ := fn_bv_s h
  refine pw_callVNv (rest := []) C (pw_ltD pw_K11) (pw_shD pw_K11 _) rfl (ct_X2_goHours l C.2.2.2.2.2.2.2.2 pw_K11 hc16) ⟨va_cnB 1 C.2.2.2.2.1 gX5_foretell_X2_goHours_n209 rfl rfl rfl nm19 k4 (by decide +kernel) ⟨Nat.le_of_ble_eq_true rfl, Nat.le_of_ble_eq_true rfl⟩, k18, k19⟩ rfl rfl (Nat.le_of_ble_eq_true rfl) dX5_foretell_16 ?_
  exact pw_vret C h dX5_foretell_19
set_option maxHeartbeats 4000000 in
set_option maxRecDepth 100000 in
theorem ct_X5_isWithin (l : Launch) {G : pw_G} (hG : pw_Ok G) {a0 : Int32} {a1 : Int32} {a2 : Int32}  {μ μ' : pw_Mem} {r : Int32} (h : fn_X5_isWithin a0 a1 a2 μ = some (r, μ')) : Met l yX5_isWithin wsX5_isWithin ({ frames := 0, cells := 0, slots := 0, locals := 0 }) (va_Pc [.int a0, .int a1, .int a2] (pw_Pre G μ)) (va_Qi (fun (r1 : Int32) (u : pw_Mem) => r1 = r ∧ u = μ') (pw_B G) (gA G)) 0 0 (gA G) := by
  refine pw_met (lv := [(0, .int a0), (1, .int a1), (2, .int a2)]) (own := RX5) (cc := cX5_isWithin) (maxL := 3) (ret := some .boolean) hG rfl (by decide) rfl rfl (Nat.le_of_ble_eq_true rfl) ?_
  intro p e s m below meth c C
  unfold fn_X5_isWithin at h
  refine pw_iload_n C dX5_isWithin_0 rfl 0 rfl ?_
  refine pw_iload_n C dX5_isWithin_1 rfl 1 rfl ?_
  refine pw_icmp_lt (tgt := 14) C dX5_isWithin_2 (by decide) (fun c2 => ?_) (fun c2 => ?_)
  · have h := fn_pos c2 h
    refine pw_iconst (v := (0 : Int32)) C dX5_isWithin_14 (by decide) ?_
    obtain ⟨hz15, h⟩ := fn_bz_s h
    exact pw_zret C hz15 h dX5_isWithin_15
  · have h := fn_neg c2 h
    refine pw_iload_n C dX5_isWithin_5 rfl 0 rfl ?_
    refine pw_iload_n C dX5_isWithin_6 rfl 2 rfl ?_
    refine pw_icmp_gt (tgt := 14) C dX5_isWithin_7 (by decide) (fun c7 => ?_) (fun c7 => ?_)
    · have h := fn_pos c7 h
      refine pw_iconst (v := (0 : Int32)) C dX5_isWithin_14 (by decide) ?_
      obtain ⟨hz15, h⟩ := fn_bz_s h
      exact pw_zret C hz15 h dX5_isWithin_15
    · have h := fn_neg c7 h
      refine pw_iconst (v := (1 : Int32)) C dX5_isWithin_10 (by decide) ?_
      refine pw_goto (tgt := 15) C dX5_isWithin_11 (by decide) ?_
      obtain ⟨hz15, h⟩ := fn_bz_s h
      exact pw_zret C hz15 h dX5_isWithin_15
set_option maxHeartbeats 4000000 in
set_option maxRecDepth 100000 in
theorem ct_X5_ahead (l : Launch) {G : pw_G} (hG : pw_Ok G) {a1 : Int32} {a2 : Int32} {a3 : Int32}  {μ μ' : pw_Mem} {r : Int32} (h : fn_X5_ahead a1 a2 a3 μ = some (r, μ')) : Met l yX5_ahead wsX5_ahead ({ frames := 6, cells := 0, slots := 0, locals := 134 }) (va_Pc [.ref (gad G 0), .int a1, .int a2, .int a3] (pw_Pre G μ)) (va_Qi (fun (r1 : Int32) (u : pw_Mem) => r1 = r ∧ u = μ') (pw_B G) (gA G)) 0 0 (gA G) := by
  refine pw_met (lv := [(0, .ref (gad G 0)), (1, .int a1), (2, .int a2), (3, .int a3)]) (own := RX5) (cc := cX5_ahead) (maxL := 4) (ret := some .int) hG rfl (by decide) rfl rfl (Nat.le_of_ble_eq_true rfl) ?_
  intro p e s m below meth c C
  have iX2 : ∀ w ∈ u_ws RX2 TX2 12, w ∈ wsX5_ahead := fun _ h => List.mem_cons_of_mem _ (List.mem_append_right _ (h))
  have iX5 : ∀ w ∈ u_ws RX5 TX5 10, w ∈ wsX5_ahead := fun _ h => List.mem_cons_of_mem _ (List.mem_append_left _ (List.mem_append_right _ (h)))
  have k1 := C.2.2.2.2.1 (.constant RX5 59 (-1000001)) (List.mem_cons_of_mem _ (List.mem_append_left _ (List.mem_append_left _ (List.mem_append_left _ (List.mem_of_getElem? (i := 0) rfl)))))
  have k2 := C.2.2.2.2.1 (.fieldLink RX5 29 "PulpitRoads" "foretold" "LPulpitRoads$Road;") (List.mem_cons_of_mem _ (List.mem_append_left _ (List.mem_append_left _ (List.mem_append_left _ (List.mem_of_getElem? (i := 1) rfl)))))
  unfold fn_X5_ahead at h
  refine pw_aload_n C dX5_ahead_0 rfl 0 rfl ?_
  refine pw_iload_n C dX5_ahead_1 rfl 1 rfl ?_
  obtain ⟨r2, m2, hc2, h⟩ := fn_bi_s h
  refine pw_callVi (rest := []) C (by decide) (pw_sh_0 _) rfl (ct_X5_isPulpit l C.2.2.2.2.2.2.2.2 hc2) (cwV 1 C.2.2.2.2.1 gX5_ahead_X5_isPulpit rfl rfl rfl (by decide +kernel) ⟨Nat.le_of_ble_eq_true rfl, Nat.le_of_ble_eq_true rfl⟩) rfl rfl (Nat.le_of_ble_eq_true rfl) dX5_ahead_2 ?_
  refine pw_if_eq (tgt := 27) C dX5_ahead_5 (by decide) (fun c5 => ?_) (fun c5 => ?_)
  · have h := fn_pos c5 h
    refine pw_ldc C k1 dX5_ahead_27 ?_
    exact pw_iret C h dX5_ahead_29
  · have h := fn_neg c5 h
    refine pw_iload_n C dX5_ahead_8 rfl 2 rfl ?_
    refine pw_iconst (v := (0 : Int32)) C dX5_ahead_9 (by decide) ?_
    refine pw_bipush (v := (60 : Int32)) C dX5_ahead_10 (by decide) ?_
    obtain ⟨r12, m12, hc12, h⟩ := fn_bi_s h
    refine pw_callSi (rest := []) C (ct_X5_isWithin l C.2.2.2.2.2.2.2.2 hc12) (va_cwS 3 C.2.2.2.2.1 gX5_ahead_X5_isWithin rfl rfl rfl (by decide +kernel) ⟨Nat.le_of_ble_eq_true rfl, Nat.le_of_ble_eq_true rfl⟩) rfl rfl (Nat.le_of_ble_eq_true rfl) dX5_ahead_12 ?_
    refine pw_if_eq (tgt := 27) C dX5_ahead_15 (by decide) (fun c15 => ?_) (fun c15 => ?_)
    · have h := fn_pos c15 h
      refine pw_ldc C k1 dX5_ahead_27 ?_
      exact pw_iret C h dX5_ahead_29
    · have h := fn_neg c15 h
      refine pw_iload_n C dX5_ahead_18 rfl 3 rfl ?_
      refine pw_iconst (v := (0 : Int32)) C dX5_ahead_19 (by decide) ?_
      refine pw_iconst (v := (1 : Int32)) C dX5_ahead_20 (by decide) ?_
      obtain ⟨r21, m21, hc21, h⟩ := fn_bi_s h
      refine pw_callSi (rest := []) C (ct_X5_isWithin l C.2.2.2.2.2.2.2.2 hc21) (va_cwS 3 C.2.2.2.2.1 gX5_ahead_X5_isWithin rfl rfl rfl (by decide +kernel) ⟨Nat.le_of_ble_eq_true rfl, Nat.le_of_ble_eq_true rfl⟩) rfl rfl (Nat.le_of_ble_eq_true rfl) dX5_ahead_21 ?_
      refine pw_if_ne (tgt := 30) C dX5_ahead_24 (by decide) (fun c24 => ?_) (fun c24 => ?_)
      · have h := fn_pos c24 h
        refine pw_aload_n C dX5_ahead_30 rfl 0 rfl ?_
        refine pw_iload_n C dX5_ahead_31 rfl 2 rfl ?_
        obtain ⟨m32, hc32, h⟩ := fn_bv_s h
        refine pw_callVv (rest := []) C (by decide) (pw_sh_0 _) rfl (ct_X5_foretell l C.2.2.2.2.2.2.2.2 hc32) (cwV 1 C.2.2.2.2.1 gX5_ahead_X5_foretell rfl rfl rfl (by decide +kernel) ⟨Nat.le_of_ble_eq_true rfl, Nat.le_of_ble_eq_true rfl⟩) rfl rfl (Nat.le_of_ble_eq_true rfl) dX5_ahead_32 ?_
        refine pw_iload_n C dX5_ahead_35 rfl 3 rfl ?_
        refine pw_if_ne (tgt := 51) C dX5_ahead_36 (by decide) (fun c36 => ?_) (fun c36 => ?_)
        · have h := fn_pos c36 h
          refine pw_aload_n C dX5_ahead_51 rfl 0 rfl ?_
          refine pw_get (v := .ref (gad G 11)) C iX5 (by decide) (pw_sh_0 _) rfl 3 (by decide) k2 rfl dX5_ahead_52 ?_
          refine pw_getN (v := .ref (gad G (11 + 5))) C iX2 (pw_ltD pw_K11) (pw_shD pw_K11 _) rfl 10 (by decide) 28 rfl rfl dX5_ahead_55 ?_
          refine pw_iload_n C dX5_ahead_58 rfl 1 rfl ?_
          obtain ⟨hi59, h⟩ := fn_ix_s h
          refine pw_iald C (pw_ltD6 pw_K11 5 (by decide)) ((pw_shD5 pw_K11) _) hi59 dX5_ahead_59 ?_
          exact pw_iret C h dX5_ahead_60
        · have h := fn_neg c36 h
          refine pw_aload_n C dX5_ahead_39 rfl 0 rfl ?_
          refine pw_get (v := .ref (gad G 11)) C iX5 (by decide) (pw_sh_0 _) rfl 3 (by decide) k2 rfl dX5_ahead_40 ?_
          refine pw_getN (v := .ref (gad G (11 + 4))) C iX2 (pw_ltD pw_K11) (pw_shD pw_K11 _) rfl 9 (by decide) 24 rfl rfl dX5_ahead_43 ?_
          refine pw_iload_n C dX5_ahead_46 rfl 1 rfl ?_
          obtain ⟨hi47, h⟩ := fn_ix_s h
          refine pw_iald C (pw_ltD6 pw_K11 4 (by decide)) ((pw_shD4 pw_K11) _) hi47 dX5_ahead_47 ?_
          refine pw_goto (tgt := 60) C dX5_ahead_48 (by decide) ?_
          exact pw_iret C h dX5_ahead_60
      · have h := fn_neg c24 h
        refine pw_ldc C k1 dX5_ahead_27 ?_
        exact pw_iret C h dX5_ahead_29
set_option maxHeartbeats 4000000 in
set_option maxRecDepth 100000 in
theorem ct_X5_heard (l : Launch) {G : pw_G} (hG : pw_Ok G) {a1 : Int32} {a2 : Int32}  {μ μ' : pw_Mem} {r : Int32} (h : fn_X5_heard a1 a2 μ = some (r, μ')) : Met l yX5_heard wsX5_heard ({ frames := 6, cells := 0, slots := 0, locals := 134 }) (va_Pc [.ref (gad G 0), .int a1, .int a2] (pw_Pre G μ)) (va_Qi (fun (r1 : Int32) (u : pw_Mem) => r1 = r ∧ u = μ') (pw_B G) (gA G)) 0 0 (gA G) := by
  refine pw_met (lv := [(0, .ref (gad G 0)), (1, .int a1), (2, .int a2)]) (own := RX5) (cc := cX5_heard) (maxL := 3) (ret := some .int) hG rfl (by decide) rfl rfl (Nat.le_of_ble_eq_true rfl) ?_
  intro p e s m below meth c C
  have iX2 : ∀ w ∈ u_ws RX2 TX2 12, w ∈ wsX5_heard := fun _ h => List.mem_cons_of_mem _ (List.mem_append_right _ (h))
  have iX5 : ∀ w ∈ u_ws RX5 TX5 10, w ∈ wsX5_heard := fun _ h => List.mem_cons_of_mem _ (List.mem_append_left _ (List.mem_append_right _ (h)))
  have k1 := C.2.2.2.2.1 (.constant RX5 59 (-1000001)) (List.mem_cons_of_mem _ (List.mem_append_left _ (List.mem_append_left _ (List.mem_append_left _ (List.mem_of_getElem? (i := 0) rfl)))))
  have k2 := C.2.2.2.2.1 (.fieldLink RX5 29 "PulpitRoads" "foretold" "LPulpitRoads$Road;") (List.mem_cons_of_mem _ (List.mem_append_left _ (List.mem_append_left _ (List.mem_append_left _ (List.mem_of_getElem? (i := 1) rfl)))))
  unfold fn_X5_heard at h
  refine pw_aload_n C dX5_heard_0 rfl 0 rfl ?_
  refine pw_iload_n C dX5_heard_1 rfl 1 rfl ?_
  obtain ⟨r2, m2, hc2, h⟩ := fn_bi_s h
  refine pw_callVi (rest := []) C (by decide) (pw_sh_0 _) rfl (ct_X5_isStretch l C.2.2.2.2.2.2.2.2 hc2) (cwV 1 C.2.2.2.2.1 gX5_heard_X5_isStretch rfl rfl rfl (by decide +kernel) ⟨Nat.le_of_ble_eq_true rfl, Nat.le_of_ble_eq_true rfl⟩) rfl rfl (Nat.le_of_ble_eq_true rfl) dX5_heard_2 ?_
  refine pw_if_eq (tgt := 18) C dX5_heard_5 (by decide) (fun c5 => ?_) (fun c5 => ?_)
  · have h := fn_pos c5 h
    refine pw_ldc C k1 dX5_heard_18 ?_
    exact pw_iret C h dX5_heard_20
  · have h := fn_neg c5 h
    refine pw_iload_n C dX5_heard_8 rfl 2 rfl ?_
    refine pw_iconst (v := (0 : Int32)) C dX5_heard_9 (by decide) ?_
    refine pw_bipush (v := (60 : Int32)) C dX5_heard_10 (by decide) ?_
    obtain ⟨r12, m12, hc12, h⟩ := fn_bi_s h
    refine pw_callSi (rest := []) C (ct_X5_isWithin l C.2.2.2.2.2.2.2.2 hc12) (va_cwS 3 C.2.2.2.2.1 gX5_heard_X5_isWithin rfl rfl rfl (by decide +kernel) ⟨Nat.le_of_ble_eq_true rfl, Nat.le_of_ble_eq_true rfl⟩) rfl rfl (Nat.le_of_ble_eq_true rfl) dX5_heard_12 ?_
    refine pw_if_ne (tgt := 21) C dX5_heard_15 (by decide) (fun c15 => ?_) (fun c15 => ?_)
    · have h := fn_pos c15 h
      refine pw_aload_n C dX5_heard_21 rfl 0 rfl ?_
      refine pw_iload_n C dX5_heard_22 rfl 2 rfl ?_
      obtain ⟨m23, hc23, h⟩ := fn_bv_s h
      refine pw_callVv (rest := []) C (by decide) (pw_sh_0 _) rfl (ct_X5_foretell l C.2.2.2.2.2.2.2.2 hc23) (cwV 1 C.2.2.2.2.1 gX5_heard_X5_foretell rfl rfl rfl (by decide +kernel) ⟨Nat.le_of_ble_eq_true rfl, Nat.le_of_ble_eq_true rfl⟩) rfl rfl (Nat.le_of_ble_eq_true rfl) dX5_heard_23 ?_
      refine pw_aload_n C dX5_heard_26 rfl 0 rfl ?_
      refine pw_get (v := .ref (gad G 11)) C iX5 (by decide) (pw_sh_0 _) rfl 3 (by decide) k2 rfl dX5_heard_27 ?_
      refine pw_getN (v := .ref (gad G (11 + 2))) C iX2 (pw_ltD pw_K11) (pw_shD pw_K11 _) rfl 7 (by decide) 17 rfl rfl dX5_heard_30 ?_
      refine pw_iload_n C dX5_heard_33 rfl 1 rfl ?_
      obtain ⟨hi34, h⟩ := fn_ix_s h
      refine pw_iald C (pw_ltD6 pw_K11 2 (by decide)) ((pw_shD2 pw_K11) _) hi34 dX5_heard_34 ?_
      exact pw_iret C h dX5_heard_35
    · have h := fn_neg c15 h
      refine pw_ldc C k1 dX5_heard_18 ?_
      exact pw_iret C h dX5_heard_20
set_option maxHeartbeats 4000000 in
set_option maxRecDepth 100000 in
theorem ct_X5_hoursToWhole (l : Launch) {G : pw_G} (hG : pw_Ok G) {a1 : Int32}  {μ μ' : pw_Mem} {r : Int32} (h : fn_X5_hoursToWhole a1 μ = some (r, μ')) : Met l yX5_hoursToWhole wsX5_hoursToWhole ({ frames := 6, cells := 0, slots := 0, locals := 134 }) (va_Pc [.ref (gad G 0), .int a1] (pw_Pre G μ)) (va_Qi (fun (r1 : Int32) (u : pw_Mem) => r1 = r ∧ u = μ') (pw_B G) (gA G)) 0 0 (gA G) := by
  refine pw_met (lv := [(0, .ref (gad G 0)), (1, .int a1)]) (own := RX5) (cc := cX5_hoursToWhole) (maxL := 3) (ret := some .int) hG rfl (by decide) rfl rfl (Nat.le_of_ble_eq_true rfl) ?_
  intro p e s m below meth c C
  have iX5 : ∀ w ∈ u_ws RX5 TX5 10, w ∈ wsX5_hoursToWhole := fun _ h => List.mem_cons_of_mem _ (List.mem_append_left _ (List.mem_append_right _ (h)))
  have k1 := C.2.2.2.2.1 (.fieldLink RX5 29 "PulpitRoads" "foretold" "LPulpitRoads$Road;") (List.mem_cons_of_mem _ (List.mem_append_left _ (List.mem_append_left _ (List.mem_append_left _ (List.mem_of_getElem? (i := 0) rfl)))))
  have k10 := C.2.2.2.2.1 (.initialized RX2) (List.mem_cons_of_mem _ (List.mem_append_left _ (List.mem_append_left _ (List.mem_append_left _ (List.mem_of_getElem? (i := 9) rfl)))))
  have k2 := C.2.2.2.2.1 (.constant RX5 196 (-1000000)) (List.mem_cons_of_mem _ (List.mem_append_left _ (List.mem_append_left _ (List.mem_append_left _ (List.mem_of_getElem? (i := 1) rfl)))))
  have k28 := C.2.2.2.2.1 (.instanceMethod yX2_goHour) (List.mem_cons_of_mem _ (List.mem_append_left _ (List.mem_append_left _ (List.mem_append_right _ (List.mem_append_left _ (List.mem_of_getElem? (i := 3) rfl))))))
  have k29 := C.2.2.2.2.1 (.selects RX2 yX2_goHour yX2_goHour) (List.mem_cons_of_mem _ (List.mem_append_left _ (List.mem_append_left _ (List.mem_append_right _ (List.mem_append_left _ (List.mem_of_getElem? (i := 4) rfl))))))
  have k64 := C.2.2.2.2.1 (.instanceMethod yX2_wholeGates) (List.mem_cons_of_mem _ (List.mem_append_left _ (List.mem_append_left _ (List.mem_append_right _ (List.mem_append_right _ (List.mem_of_getElem? (i := 15) rfl))))))
  have k65 := C.2.2.2.2.1 (.selects RX2 yX2_wholeGates yX2_wholeGates) (List.mem_cons_of_mem _ (List.mem_append_left _ (List.mem_append_left _ (List.mem_append_right _ (List.mem_append_right _ (List.mem_of_getElem? (i := 16) rfl))))))
  have nm13 : va_Nw (.methodLinkNest RX5 138 yX2_goHour "PulpitRoads") s := C.2.2.2.2.2.2.2.1.2.1.2 ("PulpitRoads", 138, ⟨"PulpitRoads$Road", "goHour", "()V"⟩, "PulpitRoads") (List.mem_of_getElem? (i := 13) rfl)
  have nm14 : va_Nw (.methodLinkNest RX5 141 yX2_wholeGates "PulpitRoads") s := C.2.2.2.2.2.2.2.1.2.1.2 ("PulpitRoads", 141, ⟨"PulpitRoads$Road", "wholeGates", "()I"⟩, "PulpitRoads") (List.mem_of_getElem? (i := 14) rfl)
  unfold fn_X5_hoursToWhole at h
  refine pw_aload_n C dX5_hoursToWhole_0 rfl 0 rfl ?_
  refine pw_iconst (v := (0 : Int32)) C dX5_hoursToWhole_1 (by decide) ?_
  obtain ⟨m2, hc2, h⟩ := fn_bv_s h
  refine pw_callVv (rest := []) C (by decide) (pw_sh_0 _) rfl (ct_X5_foretell l C.2.2.2.2.2.2.2.2 hc2) (cwV 1 C.2.2.2.2.1 gX5_hoursToWhole_X5_foretell rfl rfl rfl (by decide +kernel) ⟨Nat.le_of_ble_eq_true rfl, Nat.le_of_ble_eq_true rfl⟩) rfl rfl (Nat.le_of_ble_eq_true rfl) dX5_hoursToWhole_2 ?_
  refine pw_iconst (v := (0 : Int32)) C dX5_hoursToWhole_5 (by decide) ?_
  refine pw_istore_n (lv' := [(2, .int (0 : Int32)), (0, .ref (gad G 0)), (1, .int a1)]) C dX5_hoursToWhole_6 rfl (by decide) rfl ?_
  have L7 : ∀ (k : pw_Mem → Option (Int32 × pw_Mem)) (hk : ∀  (m1 : pw_Mem), k m1 = some (r, μ') → pw_Go p l e ({ frames := 6, cells := 0, slots := 0, locals := 134 }) s m (([.ref (gad G 0), .int a1] : List Value).toArray) below meth c (MQ below (va_Qi (fun (r1 : Int32) (u : pw_Mem) => r1 = r ∧ u = μ') (pw_B G) (gA G)) (([.ref (gad G 0), .int a1] : List Value).toArray) s 0 0 (gA G)) G 3 40 [] [] m1) (n : Nat) (v2 : Int32) (m1 : pw_Mem), fl_X5_hoursToWhole_7 k a1 n v2 m1 = some (r, μ') → pw_Go p l e ({ frames := 6, cells := 0, slots := 0, locals := 134 }) s m (([.ref (gad G 0), .int a1] : List Value).toArray) below meth c (MQ below (va_Qi (fun (r1 : Int32) (u : pw_Mem) => r1 = r ∧ u = μ') (pw_B G) (gA G)) (([.ref (gad G 0), .int a1] : List Value).toArray) s 0 0 (gA G)) G 3 7 [(0, .ref (gad G 0)), (1, .int a1), (2, .int v2)] [] m1 := by
    intro k hk n
    induction n with
    | zero => intro v2 m1 h; exact nomatch (show (none : Option (Int32 × pw_Mem)) = some _ from h)
    | succ n ih =>
      intro v2 m1 h
      rw [fl_X5_hoursToWhole_7] at h
      refine pw_iload_n C dX5_hoursToWhole_7 rfl 2 rfl ?_
      refine pw_bipush (v := (60 : Int32)) C dX5_hoursToWhole_8 (by decide) ?_
      refine pw_icmp_gt (tgt := 40) C dX5_hoursToWhole_10 (by decide) (fun c10 => ?_) (fun c10 => ?_)
      · have h := fn_pos c10 h
        refine pw_sub [] rfl ?_
        exact hk _ h
      · have h := fn_neg c10 h
        refine pw_aload_n C dX5_hoursToWhole_13 rfl 0 rfl ?_
        refine pw_get (v := .ref (gad G 11)) C iX5 (by decide) (pw_sh_0 _) rfl 3 (by decide) k1 rfl dX5_hoursToWhole_14 ?_
        obtain ⟨r17, m17, hc17, h⟩ := fn_bi_s h
        refine pw_callVNi (rest := []) C (pw_ltD pw_K11) (pw_shD pw_K11 _) rfl (ct_X2_wholeGates l C.2.2.2.2.2.2.2.2 pw_K11 hc17) ⟨va_cnB 0 C.2.2.2.2.1 gX5_hoursToWhole_X2_wholeGates_n141 rfl rfl rfl nm14 k10 (by decide +kernel) ⟨Nat.le_of_ble_eq_true rfl, Nat.le_of_ble_eq_true rfl⟩, k64, k65⟩ rfl rfl (Nat.le_of_ble_eq_true rfl) dX5_hoursToWhole_17 ?_
        refine pw_iload_n C dX5_hoursToWhole_20 rfl 1 rfl ?_
        refine pw_iand C dX5_hoursToWhole_21 ?_
        refine pw_if_eq (tgt := 27) C dX5_hoursToWhole_22 (by decide) (fun c22 => ?_) (fun c22 => ?_)
        · have h := fn_pos c22 h
          refine pw_aload_n C dX5_hoursToWhole_27 rfl 0 rfl ?_
          refine pw_get (v := .ref (gad G 11)) C iX5 (by decide) (pw_sh_0 _) rfl 3 (by decide) k1 rfl dX5_hoursToWhole_28 ?_
          obtain ⟨m31, hc31, h⟩ := fn_bv_s h
          refine pw_callVNv (rest := []) C (pw_ltD pw_K11) (pw_shD pw_K11 _) rfl (ct_X2_goHour l C.2.2.2.2.2.2.2.2 pw_K11 hc31) ⟨va_cnB 0 C.2.2.2.2.1 gX5_hoursToWhole_X2_goHour_n138 rfl rfl rfl nm13 k10 (by decide +kernel) ⟨Nat.le_of_ble_eq_true rfl, Nat.le_of_ble_eq_true rfl⟩, k28, k29⟩ rfl rfl (Nat.le_of_ble_eq_true rfl) dX5_hoursToWhole_31 ?_
          refine pw_iinc (v := (v2 + 1)) (lv' := [(2, .int (v2 + 1)), (0, .ref (gad G 0)), (1, .int a1)]) C dX5_hoursToWhole_34 (q := 2) rfl rfl (by decide) rfl ?_
          refine pw_goto (tgt := 7) C dX5_hoursToWhole_37 (by decide) ?_
          refine pw_sub [1, 2, 0] rfl ?_
          exact ih _ _ h
        · have h := fn_neg c22 h
          refine pw_iload_n C dX5_hoursToWhole_25 rfl 2 rfl ?_
          exact pw_iret C h dX5_hoursToWhole_26
  refine pw_sub [1, 2, 0] rfl ?_
  refine L7 _ (fun m40 h => ?_) _ _ _ h
  refine pw_ldc C k2 dX5_hoursToWhole_40 ?_
  exact pw_iret C h dX5_hoursToWhole_42
set_option maxHeartbeats 4000000 in
set_option maxRecDepth 100000 in
theorem ct_X5_whole (l : Launch) {G : pw_G} (hG : pw_Ok G) {a1 : Int32}  {μ μ' : pw_Mem} {r : Int32} (h : fn_X5_whole a1 μ = some (r, μ')) : Met l yX5_whole wsX5_whole ({ frames := 7, cells := 0, slots := 0, locals := 156 }) (va_Pc [.ref (gad G 0), .int a1] (pw_Pre G μ)) (va_Qi (fun (r1 : Int32) (u : pw_Mem) => r1 = r ∧ u = μ') (pw_B G) (gA G)) 0 0 (gA G) := by
  refine pw_met (lv := [(0, .ref (gad G 0)), (1, .int a1)]) (own := RX5) (cc := cX5_whole) (maxL := 2) (ret := some .int) hG rfl (by decide) rfl rfl (Nat.le_of_ble_eq_true rfl) ?_
  intro p e s m below meth c C
  have k1 := C.2.2.2.2.1 (.constant RX5 59 (-1000001)) (List.mem_cons_of_mem _ (List.mem_append_left _ (List.mem_append_left _ (List.mem_append_left _ (List.mem_of_getElem? (i := 0) rfl)))))
  unfold fn_X5_whole at h
  refine pw_aload_n C dX5_whole_0 rfl 0 rfl ?_
  refine pw_iload_n C dX5_whole_1 rfl 1 rfl ?_
  obtain ⟨r2, m2, hc2, h⟩ := fn_bi_s h
  refine pw_callVi (rest := []) C (by decide) (pw_sh_0 _) rfl (ct_X5_isStretch l C.2.2.2.2.2.2.2.2 hc2) (cwV 1 C.2.2.2.2.1 gX5_whole_X5_isStretch rfl rfl rfl (by decide +kernel) ⟨Nat.le_of_ble_eq_true rfl, Nat.le_of_ble_eq_true rfl⟩) rfl rfl (Nat.le_of_ble_eq_true rfl) dX5_whole_2 ?_
  refine pw_if_ne (tgt := 11) C dX5_whole_5 (by decide) (fun c5 => ?_) (fun c5 => ?_)
  · have h := fn_pos c5 h
    refine pw_aload_n C dX5_whole_11 rfl 0 rfl ?_
    refine pw_iconst (v := (1 : Int32)) C dX5_whole_12 (by decide) ?_
    refine pw_iload_n C dX5_whole_13 rfl 1 rfl ?_
    refine pw_ishl C dX5_whole_14 ?_
    obtain ⟨r15, m15, hc15, h⟩ := fn_bi_s h
    refine pw_callVi (rest := []) C (by decide) (pw_sh_0 _) rfl (ct_X5_hoursToWhole l C.2.2.2.2.2.2.2.2 hc15) (cwV 1 C.2.2.2.2.1 gX5_whole_X5_hoursToWhole rfl rfl rfl (by decide +kernel) ⟨Nat.le_of_ble_eq_true rfl, Nat.le_of_ble_eq_true rfl⟩) rfl rfl (Nat.le_of_ble_eq_true rfl) dX5_whole_15 ?_
    exact pw_iret C h dX5_whole_18
  · have h := fn_neg c5 h
    refine pw_ldc C k1 dX5_whole_8 ?_
    exact pw_iret C h dX5_whole_10
set_option maxHeartbeats 4000000 in
set_option maxRecDepth 100000 in
theorem ct_X5_leastOf (l : Launch) {G : pw_G} (hG : pw_Ok G) {a0 : Int32}  {μ μ' : pw_Mem} {r : Int32} (h : fn_X5_leastOf a0 μ = some (r, μ')) : Met l yX5_leastOf wsX5_leastOf ({ frames := 0, cells := 0, slots := 0, locals := 0 }) (va_Pc [.int a0] (pw_Pre G μ)) (va_Qi (fun (r1 : Int32) (u : pw_Mem) => r1 = r ∧ u = μ') (pw_B G) (gA G)) 0 0 (gA G) := by
  refine pw_met (lv := [(0, .int a0)]) (own := RX5) (cc := cX5_leastOf) (maxL := 2) (ret := some .int) hG rfl (by decide) rfl rfl (Nat.le_of_ble_eq_true rfl) ?_
  intro p e s m below meth c C
  have k1 := C.2.2.2.2.1 (.constant RX5 196 (-1000000)) (List.mem_cons_of_mem _ (List.mem_of_getElem? (i := 0) rfl))
  unfold fn_X5_leastOf at h
  refine pw_iconst (v := (0 : Int32)) C dX5_leastOf_0 (by decide) ?_
  refine pw_istore_n (lv' := [(1, .int (0 : Int32)), (0, .int a0)]) C dX5_leastOf_1 rfl (by decide) rfl ?_
  have L2 : ∀ (k : pw_Mem → Option (Int32 × pw_Mem)) (hk : ∀  (m1 : pw_Mem), k m1 = some (r, μ') → pw_Go p l e ({ frames := 0, cells := 0, slots := 0, locals := 0 }) s m (([.int a0] : List Value).toArray) below meth c (MQ below (va_Qi (fun (r1 : Int32) (u : pw_Mem) => r1 = r ∧ u = μ') (pw_B G) (gA G)) (([.int a0] : List Value).toArray) s 0 0 (gA G)) G 2 24 [] [] m1) (n : Nat) (v1 : Int32) (m1 : pw_Mem), fl_X5_leastOf_2 k a0 n v1 m1 = some (r, μ') → pw_Go p l e ({ frames := 0, cells := 0, slots := 0, locals := 0 }) s m (([.int a0] : List Value).toArray) below meth c (MQ below (va_Qi (fun (r1 : Int32) (u : pw_Mem) => r1 = r ∧ u = μ') (pw_B G) (gA G)) (([.int a0] : List Value).toArray) s 0 0 (gA G)) G 2 2 [(0, .int a0), (1, .int v1)] [] m1 := by
    intro k hk n
    induction n with
    | zero => intro v1 m1 h; exact nomatch (show (none : Option (Int32 × pw_Mem)) = some _ from h)
    | succ n ih =>
      intro v1 m1 h
      rw [fl_X5_leastOf_2] at h
      refine pw_iload_n C dX5_leastOf_2 rfl 1 rfl ?_
      refine pw_bipush (v := (9 : Int32)) C dX5_leastOf_3 (by decide) ?_
      refine pw_icmp_ge (tgt := 24) C dX5_leastOf_5 (by decide) (fun c5 => ?_) (fun c5 => ?_)
      · have h := fn_pos c5 h
        refine pw_sub [] rfl ?_
        exact hk _ h
      · have h := fn_neg c5 h
        refine pw_iload_n C dX5_leastOf_8 rfl 0 rfl ?_
        refine pw_iload_n C dX5_leastOf_9 rfl 1 rfl ?_
        refine pw_ishr C dX5_leastOf_10 ?_
        refine pw_iconst (v := (1 : Int32)) C dX5_leastOf_11 (by decide) ?_
        refine pw_iand C dX5_leastOf_12 ?_
        refine pw_if_eq (tgt := 18) C dX5_leastOf_13 (by decide) (fun c13 => ?_) (fun c13 => ?_)
        · have h := fn_pos c13 h
          refine pw_iinc (v := (v1 + 1)) (lv' := [(1, .int (v1 + 1)), (0, .int a0)]) C dX5_leastOf_18 (q := 1) rfl rfl (by decide) rfl ?_
          refine pw_goto (tgt := 2) C dX5_leastOf_21 (by decide) ?_
          refine pw_sub [1, 0] rfl ?_
          exact ih _ _ h
        · have h := fn_neg c13 h
          refine pw_iload_n C dX5_leastOf_16 rfl 1 rfl ?_
          exact pw_iret C h dX5_leastOf_17
  refine pw_sub [1, 0] rfl ?_
  refine L2 _ (fun m24 h => ?_) _ _ _ h
  refine pw_ldc C k1 dX5_leastOf_24 ?_
  exact pw_iret C h dX5_leastOf_26
set_option maxHeartbeats 4000000 in
set_option maxRecDepth 100000 in
theorem ct_X5_first (l : Launch) {G : pw_G} (hG : pw_Ok G) {a1 : Int32}  {μ μ' : pw_Mem} {r : Int32} (h : fn_X5_first a1 μ = some (r, μ')) : Met l yX5_first wsX5_first ({ frames := 7, cells := 0, slots := 0, locals := 156 }) (va_Pc [.ref (gad G 0), .int a1] (pw_Pre G μ)) (va_Qi (fun (r1 : Int32) (u : pw_Mem) => r1 = r ∧ u = μ') (pw_B G) (gA G)) 0 0 (gA G) := by
  refine pw_met (lv := [(0, .ref (gad G 0)), (1, .int a1)]) (own := RX5) (cc := cX5_first) (maxL := 3) (ret := some .int) hG rfl (by decide) rfl rfl (Nat.le_of_ble_eq_true rfl) ?_
  intro p e s m below meth c C
  have iX2 : ∀ w ∈ u_ws RX2 TX2 12, w ∈ wsX5_first := fun _ h => List.mem_cons_of_mem _ (List.mem_append_right _ (h))
  have iX5 : ∀ w ∈ u_ws RX5 TX5 10, w ∈ wsX5_first := fun _ h => List.mem_cons_of_mem _ (List.mem_append_left _ (List.mem_append_right _ (h)))
  have k1 := C.2.2.2.2.1 (.fieldLink RX5 25 "PulpitRoads" "now" "LPulpitRoads$Road;") (List.mem_cons_of_mem _ (List.mem_append_left _ (List.mem_append_left _ (List.mem_append_left _ (List.mem_of_getElem? (i := 0) rfl)))))
  have k19 := C.2.2.2.2.1 (.initialized RX2) (List.mem_cons_of_mem _ (List.mem_append_left _ (List.mem_append_left _ (List.mem_append_left _ (List.mem_of_getElem? (i := 18) rfl)))))
  have k2 := C.2.2.2.2.1 (.constant RX5 131 (-1000002)) (List.mem_cons_of_mem _ (List.mem_append_left _ (List.mem_append_left _ (List.mem_append_left _ (List.mem_of_getElem? (i := 1) rfl)))))
  have k3 := C.2.2.2.2.1 (.constant RX5 59 (-1000001)) (List.mem_cons_of_mem _ (List.mem_append_left _ (List.mem_append_left _ (List.mem_append_left _ (List.mem_of_getElem? (i := 2) rfl)))))
  have k4 := C.2.2.2.2.1 (.constant RX5 196 (-1000000)) (List.mem_cons_of_mem _ (List.mem_append_left _ (List.mem_append_left _ (List.mem_append_left _ (List.mem_of_getElem? (i := 3) rfl)))))
  have k5 := C.2.2.2.2.1 (.fieldLink RX5 29 "PulpitRoads" "foretold" "LPulpitRoads$Road;") (List.mem_cons_of_mem _ (List.mem_append_left _ (List.mem_append_left _ (List.mem_append_left _ (List.mem_of_getElem? (i := 4) rfl)))))
  have k73 := C.2.2.2.2.1 (.instanceMethod yX2_wholeGates) (List.mem_cons_of_mem _ (List.mem_append_left _ (List.mem_append_left _ (List.mem_append_right _ (List.mem_append_right _ (List.mem_append_right _ (List.mem_of_getElem? (i := 0) rfl)))))))
  have k74 := C.2.2.2.2.1 (.selects RX2 yX2_wholeGates yX2_wholeGates) (List.mem_cons_of_mem _ (List.mem_append_left _ (List.mem_append_left _ (List.mem_append_right _ (List.mem_append_right _ (List.mem_append_right _ (List.mem_of_getElem? (i := 1) rfl)))))))
  have nm14 : va_Nw (.methodLinkNest RX5 141 yX2_wholeGates "PulpitRoads") s := C.2.2.2.2.2.2.2.1.2.1.2 ("PulpitRoads", 141, ⟨"PulpitRoads$Road", "wholeGates", "()I"⟩, "PulpitRoads") (List.mem_of_getElem? (i := 14) rfl)
  unfold fn_X5_first at h
  refine pw_aload_n C dX5_first_0 rfl 0 rfl ?_
  refine pw_get (v := .ref (gad G 4)) C iX5 (by decide) (pw_sh_0 _) rfl 2 (by decide) k1 rfl dX5_first_1 ?_
  refine pw_getN (v := .int (μ 4 0)) C iX2 (pw_ltD pw_K4) (pw_shD pw_K4 _) rfl 0 (by decide) 3 rfl rfl dX5_first_4 ?_
  refine pw_if_ne (tgt := 13) C dX5_first_7 (by decide) (fun c7 => ?_) (fun c7 => ?_)
  · have h := fn_pos c7 h
    refine pw_iload_n C dX5_first_13 rfl 1 rfl ?_
    refine pw_iconst (v := (0 : Int32)) C dX5_first_14 (by decide) ?_
    refine pw_iconst (v := (1 : Int32)) C dX5_first_15 (by decide) ?_
    obtain ⟨r16, m16, hc16, h⟩ := fn_bi_s h
    refine pw_callSi (rest := []) C (ct_X5_isWithin l C.2.2.2.2.2.2.2.2 hc16) (va_cwS 3 C.2.2.2.2.1 gX5_first_X5_isWithin rfl rfl rfl (by decide +kernel) ⟨Nat.le_of_ble_eq_true rfl, Nat.le_of_ble_eq_true rfl⟩) rfl rfl (Nat.le_of_ble_eq_true rfl) dX5_first_16 ?_
    refine pw_if_ne (tgt := 25) C dX5_first_19 (by decide) (fun c19 => ?_) (fun c19 => ?_)
    · have h := fn_pos c19 h
      refine pw_aload_n C dX5_first_25 rfl 0 rfl ?_
      refine pw_iconst (v := (1 : Int32)) C dX5_first_26 (by decide) ?_
      refine pw_aload_n C dX5_first_27 rfl 0 rfl ?_
      refine pw_get (v := .ref (gad G 4)) C iX5 (by decide) (pw_sh_0 _) rfl 2 (by decide) k1 rfl dX5_first_28 ?_
      refine pw_getN (v := .int (m16 4 4)) C iX2 (pw_ltD pw_K4) (pw_shD pw_K4 _) rfl 4 (by decide) 11 rfl rfl dX5_first_31 ?_
      refine pw_ishl C dX5_first_34 ?_
      refine pw_iconst (v := (1 : Int32)) C dX5_first_35 (by decide) ?_
      refine pw_isub C dX5_first_36 ?_
      obtain ⟨r37, m37, hc37, h⟩ := fn_bi_s h
      refine pw_callVi (rest := []) C (by decide) (pw_sh_0 _) rfl (ct_X5_hoursToWhole l C.2.2.2.2.2.2.2.2 hc37) (cwV 1 C.2.2.2.2.1 gX5_first_X5_hoursToWhole rfl rfl rfl (by decide +kernel) ⟨Nat.le_of_ble_eq_true rfl, Nat.le_of_ble_eq_true rfl⟩) rfl rfl (Nat.le_of_ble_eq_true rfl) dX5_first_37 ?_
      refine pw_istore_n (lv' := [(2, .int r37), (0, .ref (gad G 0)), (1, .int a1)]) C dX5_first_40 rfl (by decide) rfl ?_
      refine pw_iload_n C dX5_first_41 rfl 0 rfl ?_
      refine pw_ldc C k4 dX5_first_42 ?_
      refine pw_icmp_eq (tgt := 52) C dX5_first_44 (by decide) (fun c44 => ?_) (fun c44 => ?_)
      · have h := fn_pos c44 h
        refine pw_iload_n C dX5_first_52 rfl 0 rfl ?_
        exact pw_iret C h dX5_first_53
      · have h := fn_neg c44 h
        refine pw_iload_n C dX5_first_47 rfl 2 rfl ?_
        refine pw_iconst (v := (1 : Int32)) C dX5_first_48 (by decide) ?_
        refine pw_icmp_ne (tgt := 54) C dX5_first_49 (by decide) (fun c49 => ?_) (fun c49 => ?_)
        · have h := fn_pos c49 h
          refine pw_aload_n C dX5_first_54 rfl 1 rfl ?_
          refine pw_get (v := .ref (gad G 11)) C iX5 (by decide) (pw_sh_0 _) rfl 3 (by decide) k5 rfl dX5_first_55 ?_
          obtain ⟨r58, m58, hc58, h⟩ := fn_bi_s h
          refine pw_callVNi (rest := []) C (pw_ltD pw_K11) (pw_shD pw_K11 _) rfl (ct_X2_wholeGates l C.2.2.2.2.2.2.2.2 pw_K11 hc58) ⟨va_cnB 0 C.2.2.2.2.1 gX5_first_X2_wholeGates_n141 rfl rfl rfl nm14 k19 (by decide +kernel) ⟨Nat.le_of_ble_eq_true rfl, Nat.le_of_ble_eq_true rfl⟩, k73, k74⟩ rfl rfl (Nat.le_of_ble_eq_true rfl) dX5_first_58 ?_
          obtain ⟨r61, m61, hc61, h⟩ := fn_bi_s h
          refine pw_callSi (rest := []) C (ct_X5_leastOf l C.2.2.2.2.2.2.2.2 hc61) (va_cwS 1 C.2.2.2.2.1 gX5_first_X5_leastOf rfl rfl rfl (by decide +kernel) ⟨Nat.le_of_ble_eq_true rfl, Nat.le_of_ble_eq_true rfl⟩) rfl rfl (Nat.le_of_ble_eq_true rfl) dX5_first_61 ?_
          exact pw_iret C h dX5_first_64
        · have h := fn_neg c49 h
          refine pw_iload_n C dX5_first_52 rfl 0 rfl ?_
          exact pw_iret C h dX5_first_53
    · have h := fn_neg c19 h
      refine pw_ldc C k3 dX5_first_22 ?_
      exact pw_iret C h dX5_first_24
  · have h := fn_neg c7 h
    refine pw_ldc C k2 dX5_first_10 ?_
    exact pw_iret C h dX5_first_12
set_option maxHeartbeats 4000000 in
set_option maxRecDepth 100000 in
theorem ct_X5_left (l : Launch) {G : pw_G} (hG : pw_Ok G) {a1 : Int32}  {μ μ' : pw_Mem} {r : Int32} (h : fn_X5_left a1 μ = some (r, μ')) : Met l yX5_left wsX5_left ({ frames := 6, cells := 0, slots := 0, locals := 134 }) (va_Pc [.ref (gad G 0), .int a1] (pw_Pre G μ)) (va_Qi (fun (r1 : Int32) (u : pw_Mem) => r1 = r ∧ u = μ') (pw_B G) (gA G)) 0 0 (gA G) := by
  refine pw_met (lv := [(0, .ref (gad G 0)), (1, .int a1)]) (own := RX5) (cc := cX5_left) (maxL := 2) (ret := some .int) hG rfl (by decide) rfl rfl (Nat.le_of_ble_eq_true rfl) ?_
  intro p e s m below meth c C
  have iX2 : ∀ w ∈ u_ws RX2 TX2 12, w ∈ wsX5_left := fun _ h => List.mem_cons_of_mem _ (List.mem_append_right _ (h))
  have iX5 : ∀ w ∈ u_ws RX5 TX5 10, w ∈ wsX5_left := fun _ h => List.mem_cons_of_mem _ (List.mem_append_left _ (List.mem_append_right _ (h)))
  have k1 := C.2.2.2.2.1 (.fieldLink RX5 25 "PulpitRoads" "now" "LPulpitRoads$Road;") (List.mem_cons_of_mem _ (List.mem_append_left _ (List.mem_append_left _ (List.mem_append_left _ (List.mem_of_getElem? (i := 0) rfl)))))
  have k14 := C.2.2.2.2.1 (.initialized RX2) (List.mem_cons_of_mem _ (List.mem_append_left _ (List.mem_append_left _ (List.mem_append_left _ (List.mem_of_getElem? (i := 13) rfl)))))
  have k2 := C.2.2.2.2.1 (.constant RX5 131 (-1000002)) (List.mem_cons_of_mem _ (List.mem_append_left _ (List.mem_append_left _ (List.mem_append_left _ (List.mem_of_getElem? (i := 1) rfl)))))
  have k3 := C.2.2.2.2.1 (.constant RX5 59 (-1000001)) (List.mem_cons_of_mem _ (List.mem_append_left _ (List.mem_append_left _ (List.mem_append_left _ (List.mem_of_getElem? (i := 2) rfl)))))
  have k4 := C.2.2.2.2.1 (.fieldLink RX5 29 "PulpitRoads" "foretold" "LPulpitRoads$Road;") (List.mem_cons_of_mem _ (List.mem_append_left _ (List.mem_append_left _ (List.mem_append_left _ (List.mem_of_getElem? (i := 3) rfl)))))
  have k68 := C.2.2.2.2.1 (.instanceMethod yX2_allWords) (List.mem_cons_of_mem _ (List.mem_append_left _ (List.mem_append_left _ (List.mem_append_right _ (List.mem_append_right _ (List.mem_append_left _ (List.mem_of_getElem? (i := 19) rfl)))))))
  have k69 := C.2.2.2.2.1 (.selects RX2 yX2_allWords yX2_allWords) (List.mem_cons_of_mem _ (List.mem_append_left _ (List.mem_append_left _ (List.mem_append_right _ (List.mem_append_right _ (List.mem_append_left _ (List.mem_of_getElem? (i := 20) rfl)))))))
  have k71 := C.2.2.2.2.1 (.instanceMethod yX2_heardAtAny) (List.mem_cons_of_mem _ (List.mem_append_left _ (List.mem_append_left _ (List.mem_append_right _ (List.mem_append_right _ (List.mem_append_left _ (List.mem_of_getElem? (i := 22) rfl)))))))
  have k72 := C.2.2.2.2.1 (.selects RX2 yX2_heardAtAny yX2_heardAtAny) (List.mem_cons_of_mem _ (List.mem_append_left _ (List.mem_append_left _ (List.mem_append_right _ (List.mem_append_right _ (List.mem_append_left _ (List.mem_of_getElem? (i := 23) rfl)))))))
  have nm20 : va_Nw (.methodLinkNest RX5 200 yX2_allWords "PulpitRoads") s := C.2.2.2.2.2.2.2.1.2.1.2 ("PulpitRoads", 200, ⟨"PulpitRoads$Road", "allWords", "()I"⟩, "PulpitRoads") (List.mem_of_getElem? (i := 20) rfl)
  have nm21 : va_Nw (.methodLinkNest RX5 203 yX2_heardAtAny "PulpitRoads") s := C.2.2.2.2.2.2.2.1.2.1.2 ("PulpitRoads", 203, ⟨"PulpitRoads$Road", "heardAtAny", "(I)I"⟩, "PulpitRoads") (List.mem_of_getElem? (i := 21) rfl)
  unfold fn_X5_left at h
  refine pw_aload_n C dX5_left_0 rfl 0 rfl ?_
  refine pw_get (v := .ref (gad G 4)) C iX5 (by decide) (pw_sh_0 _) rfl 2 (by decide) k1 rfl dX5_left_1 ?_
  refine pw_getN (v := .int (μ 4 0)) C iX2 (pw_ltD pw_K4) (pw_shD pw_K4 _) rfl 0 (by decide) 3 rfl rfl dX5_left_4 ?_
  refine pw_if_ne (tgt := 13) C dX5_left_7 (by decide) (fun c7 => ?_) (fun c7 => ?_)
  · have h := fn_pos c7 h
    refine pw_iload_n C dX5_left_13 rfl 1 rfl ?_
    refine pw_iconst (v := (0 : Int32)) C dX5_left_14 (by decide) ?_
    refine pw_bipush (v := (60 : Int32)) C dX5_left_15 (by decide) ?_
    obtain ⟨r17, m17, hc17, h⟩ := fn_bi_s h
    refine pw_callSi (rest := []) C (ct_X5_isWithin l C.2.2.2.2.2.2.2.2 hc17) (va_cwS 3 C.2.2.2.2.1 gX5_left_X5_isWithin rfl rfl rfl (by decide +kernel) ⟨Nat.le_of_ble_eq_true rfl, Nat.le_of_ble_eq_true rfl⟩) rfl rfl (Nat.le_of_ble_eq_true rfl) dX5_left_17 ?_
    refine pw_if_ne (tgt := 26) C dX5_left_20 (by decide) (fun c20 => ?_) (fun c20 => ?_)
    · have h := fn_pos c20 h
      refine pw_aload_n C dX5_left_26 rfl 0 rfl ?_
      refine pw_iload_n C dX5_left_27 rfl 1 rfl ?_
      obtain ⟨m28, hc28, h⟩ := fn_bv_s h
      refine pw_callVv (rest := []) C (by decide) (pw_sh_0 _) rfl (ct_X5_foretell l C.2.2.2.2.2.2.2.2 hc28) (cwV 1 C.2.2.2.2.1 gX5_left_X5_foretell rfl rfl rfl (by decide +kernel) ⟨Nat.le_of_ble_eq_true rfl, Nat.le_of_ble_eq_true rfl⟩) rfl rfl (Nat.le_of_ble_eq_true rfl) dX5_left_28 ?_
      refine pw_aload_n C dX5_left_31 rfl 0 rfl ?_
      refine pw_get (v := .ref (gad G 11)) C iX5 (by decide) (pw_sh_0 _) rfl 3 (by decide) k4 rfl dX5_left_32 ?_
      obtain ⟨r35, m35, hc35, h⟩ := fn_bi_s h
      refine pw_callVNi (rest := []) C (pw_ltD pw_K11) (pw_shD pw_K11 _) rfl (ct_X2_allWords l C.2.2.2.2.2.2.2.2 pw_K11 hc35) ⟨va_cnB 0 C.2.2.2.2.1 gX5_left_X2_allWords_n200 rfl rfl rfl nm20 k14 (by decide +kernel) ⟨Nat.le_of_ble_eq_true rfl, Nat.le_of_ble_eq_true rfl⟩, k68, k69⟩ rfl rfl (Nat.le_of_ble_eq_true rfl) dX5_left_35 ?_
      refine pw_aload_n C dX5_left_38 rfl 0 rfl ?_
      refine pw_get (v := .ref (gad G 11)) C iX5 (by decide) (pw_sh_0 _) rfl 3 (by decide) k4 rfl dX5_left_39 ?_
      refine pw_iconst (v := (1 : Int32)) C dX5_left_42 (by decide) ?_
      refine pw_aload_n C dX5_left_43 rfl 0 rfl ?_
      refine pw_get (v := .ref (gad G 11)) C iX5 (by decide) (pw_sh_0 _) rfl 3 (by decide) k4 rfl dX5_left_44 ?_
      refine pw_getN (v := .int (m35 11 4)) C iX2 (pw_ltD pw_K11) (pw_shD pw_K11 _) rfl 4 (by decide) 11 rfl rfl dX5_left_47 ?_
      refine pw_ishl C dX5_left_50 ?_
      refine pw_iconst (v := (1 : Int32)) C dX5_left_51 (by decide) ?_
      refine pw_isub C dX5_left_52 ?_
      obtain ⟨r53, m53, hc53, h⟩ := fn_bi_s h
      refine pw_callVNi (rest := [.int r35]) C (pw_ltD pw_K11) (pw_shD pw_K11 _) rfl (ct_X2_heardAtAny l C.2.2.2.2.2.2.2.2 pw_K11 hc53) ⟨va_cnB 1 C.2.2.2.2.1 gX5_left_X2_heardAtAny_n203 rfl rfl rfl nm21 k14 (by decide +kernel) ⟨Nat.le_of_ble_eq_true rfl, Nat.le_of_ble_eq_true rfl⟩, k71, k72⟩ rfl rfl (Nat.le_of_ble_eq_true rfl) dX5_left_53 ?_
      refine pw_iconst (v := (-1 : Int32)) C dX5_left_56 (by decide) ?_
      refine pw_ixor C dX5_left_57 ?_
      refine pw_iand C dX5_left_58 ?_
      exact pw_iret C h dX5_left_59
    · have h := fn_neg c20 h
      refine pw_ldc C k3 dX5_left_23 ?_
      exact pw_iret C h dX5_left_25
  · have h := fn_neg c7 h
    refine pw_ldc C k2 dX5_left_10 ?_
    exact pw_iret C h dX5_left_12
set_option maxHeartbeats 4000000 in
set_option maxRecDepth 100000 in
theorem ct_X5_meet (l : Launch) {G : pw_G} (hG : pw_Ok G) {a1 : Int32} {a2 : Int32}  {μ μ' : pw_Mem} {r : Int32} (h : fn_X5_meet a1 a2 μ = some (r, μ')) : Met l yX5_meet wsX5_meet ({ frames := 6, cells := 0, slots := 0, locals := 134 }) (va_Pc [.ref (gad G 0), .int a1, .int a2] (pw_Pre G μ)) (va_Qi (fun (r1 : Int32) (u : pw_Mem) => r1 = r ∧ u = μ') (pw_B G) (gA G)) 0 0 (gA G) := by
  refine pw_met (lv := [(0, .ref (gad G 0)), (1, .int a1), (2, .int a2)]) (own := RX5) (cc := cX5_meet) (maxL := 4) (ret := some .int) hG rfl (by decide) rfl rfl (Nat.le_of_ble_eq_true rfl) ?_
  intro p e s m below meth c C
  have iX2 : ∀ w ∈ u_ws RX2 TX2 12, w ∈ wsX5_meet := fun _ h => List.mem_cons_of_mem _ (List.mem_append_right _ (h))
  have iX5 : ∀ w ∈ u_ws RX5 TX5 10, w ∈ wsX5_meet := fun _ h => List.mem_cons_of_mem _ (List.mem_append_left _ (List.mem_append_right _ (h)))
  have k1 := C.2.2.2.2.1 (.constant RX5 59 (-1000001)) (List.mem_cons_of_mem _ (List.mem_append_left _ (List.mem_append_left _ (List.mem_append_left _ (List.mem_of_getElem? (i := 0) rfl)))))
  have k15 := C.2.2.2.2.1 (.initialized RX2) (List.mem_cons_of_mem _ (List.mem_append_left _ (List.mem_append_left _ (List.mem_append_left _ (List.mem_of_getElem? (i := 14) rfl)))))
  have k2 := C.2.2.2.2.1 (.fieldLink RX5 29 "PulpitRoads" "foretold" "LPulpitRoads$Road;") (List.mem_cons_of_mem _ (List.mem_append_left _ (List.mem_append_left _ (List.mem_append_left _ (List.mem_of_getElem? (i := 1) rfl)))))
  have k3 := C.2.2.2.2.1 (.constant RX5 196 (-1000000)) (List.mem_cons_of_mem _ (List.mem_append_left _ (List.mem_append_left _ (List.mem_append_left _ (List.mem_of_getElem? (i := 2) rfl)))))
  have k33 := C.2.2.2.2.1 (.instanceMethod yX2_goHour) (List.mem_cons_of_mem _ (List.mem_append_left _ (List.mem_append_left _ (List.mem_append_right _ (List.mem_append_left _ (List.mem_of_getElem? (i := 8) rfl))))))
  have k34 := C.2.2.2.2.1 (.selects RX2 yX2_goHour yX2_goHour) (List.mem_cons_of_mem _ (List.mem_append_left _ (List.mem_append_left _ (List.mem_append_right _ (List.mem_append_left _ (List.mem_of_getElem? (i := 9) rfl))))))
  have nm13 : va_Nw (.methodLinkNest RX5 138 yX2_goHour "PulpitRoads") s := C.2.2.2.2.2.2.2.1.2.1.2 ("PulpitRoads", 138, ⟨"PulpitRoads$Road", "goHour", "()V"⟩, "PulpitRoads") (List.mem_of_getElem? (i := 13) rfl)
  unfold fn_X5_meet at h
  refine pw_aload_n C dX5_meet_0 rfl 0 rfl ?_
  refine pw_iload_n C dX5_meet_1 rfl 1 rfl ?_
  obtain ⟨r2, m2, hc2, h⟩ := fn_bi_s h
  refine pw_callVi (rest := []) C (by decide) (pw_sh_0 _) rfl (ct_X5_isPulpit l C.2.2.2.2.2.2.2.2 hc2) (cwV 1 C.2.2.2.2.1 gX5_meet_X5_isPulpit rfl rfl rfl (by decide +kernel) ⟨Nat.le_of_ble_eq_true rfl, Nat.le_of_ble_eq_true rfl⟩) rfl rfl (Nat.le_of_ble_eq_true rfl) dX5_meet_2 ?_
  refine pw_if_eq (tgt := 21) C dX5_meet_5 (by decide) (fun c5 => ?_) (fun c5 => ?_)
  · have h := fn_pos c5 h
    refine pw_ldc C k1 dX5_meet_21 ?_
    exact pw_iret C h dX5_meet_23
  · have h := fn_neg c5 h
    refine pw_aload_n C dX5_meet_8 rfl 0 rfl ?_
    refine pw_iload_n C dX5_meet_9 rfl 2 rfl ?_
    obtain ⟨r10, m10, hc10, h⟩ := fn_bi_s h
    refine pw_callVi (rest := []) C (by decide) (pw_sh_0 _) rfl (ct_X5_isPulpit l C.2.2.2.2.2.2.2.2 hc10) (cwV 1 C.2.2.2.2.1 gX5_meet_X5_isPulpit rfl rfl rfl (by decide +kernel) ⟨Nat.le_of_ble_eq_true rfl, Nat.le_of_ble_eq_true rfl⟩) rfl rfl (Nat.le_of_ble_eq_true rfl) dX5_meet_10 ?_
    refine pw_if_eq (tgt := 21) C dX5_meet_13 (by decide) (fun c13 => ?_) (fun c13 => ?_)
    · have h := fn_pos c13 h
      refine pw_ldc C k1 dX5_meet_21 ?_
      exact pw_iret C h dX5_meet_23
    · have h := fn_neg c13 h
      refine pw_iload_n C dX5_meet_16 rfl 1 rfl ?_
      refine pw_iload_n C dX5_meet_17 rfl 2 rfl ?_
      refine pw_icmp_ne (tgt := 24) C dX5_meet_18 (by decide) (fun c18 => ?_) (fun c18 => ?_)
      · have h := fn_pos c18 h
        refine pw_aload_n C dX5_meet_24 rfl 0 rfl ?_
        refine pw_iconst (v := (0 : Int32)) C dX5_meet_25 (by decide) ?_
        obtain ⟨m26, hc26, h⟩ := fn_bv_s h
        refine pw_callVv (rest := []) C (by decide) (pw_sh_0 _) rfl (ct_X5_foretell l C.2.2.2.2.2.2.2.2 hc26) (cwV 1 C.2.2.2.2.1 gX5_meet_X5_foretell rfl rfl rfl (by decide +kernel) ⟨Nat.le_of_ble_eq_true rfl, Nat.le_of_ble_eq_true rfl⟩) rfl rfl (Nat.le_of_ble_eq_true rfl) dX5_meet_26 ?_
        refine pw_iconst (v := (0 : Int32)) C dX5_meet_29 (by decide) ?_
        refine pw_istore_n (lv' := [(3, .int (0 : Int32)), (0, .ref (gad G 0)), (1, .int a1), (2, .int a2)]) C dX5_meet_30 rfl (by decide) rfl ?_
        have L31 : ∀ (k : pw_Mem → Option (Int32 × pw_Mem)) (hk : ∀  (m1 : pw_Mem), k m1 = some (r, μ') → pw_Go p l e ({ frames := 6, cells := 0, slots := 0, locals := 134 }) s m (([.ref (gad G 0), .int a1, .int a2] : List Value).toArray) below meth c (MQ below (va_Qi (fun (r1 : Int32) (u : pw_Mem) => r1 = r ∧ u = μ') (pw_B G) (gA G)) (([.ref (gad G 0), .int a1, .int a2] : List Value).toArray) s 0 0 (gA G)) G 4 73 [] [] m1) (n : Nat) (v3 : Int32) (m1 : pw_Mem), fl_X5_meet_31 k a1 a2 n v3 m1 = some (r, μ') → pw_Go p l e ({ frames := 6, cells := 0, slots := 0, locals := 134 }) s m (([.ref (gad G 0), .int a1, .int a2] : List Value).toArray) below meth c (MQ below (va_Qi (fun (r1 : Int32) (u : pw_Mem) => r1 = r ∧ u = μ') (pw_B G) (gA G)) (([.ref (gad G 0), .int a1, .int a2] : List Value).toArray) s 0 0 (gA G)) G 4 31 [(0, .ref (gad G 0)), (1, .int a1), (2, .int a2), (3, .int v3)] [] m1 := by
          intro k hk n
          induction n with
          | zero => intro v3 m1 h; exact nomatch (show (none : Option (Int32 × pw_Mem)) = some _ from h)
          | succ n ih =>
            intro v3 m1 h
            rw [fl_X5_meet_31] at h
            refine pw_iload_n C dX5_meet_31 rfl 3 rfl ?_
            refine pw_bipush (v := (60 : Int32)) C dX5_meet_32 (by decide) ?_
            refine pw_icmp_gt (tgt := 73) C dX5_meet_34 (by decide) (fun c34 => ?_) (fun c34 => ?_)
            · have h := fn_pos c34 h
              refine pw_sub [] rfl ?_
              exact hk _ h
            · have h := fn_neg c34 h
              refine pw_aload_n C dX5_meet_37 rfl 0 rfl ?_
              refine pw_get (v := .ref (gad G 11)) C iX5 (by decide) (pw_sh_0 _) rfl 3 (by decide) k2 rfl dX5_meet_38 ?_
              refine pw_getN (v := .ref (gad G (11 + 4))) C iX2 (pw_ltD pw_K11) (pw_shD pw_K11 _) rfl 9 (by decide) 24 rfl rfl dX5_meet_41 ?_
              refine pw_iload_n C dX5_meet_44 rfl 1 rfl ?_
              obtain ⟨hi45, h⟩ := fn_ix_s h
              refine pw_iald C (pw_ltD6 pw_K11 4 (by decide)) ((pw_shD4 pw_K11) _) hi45 dX5_meet_45 ?_
              refine pw_aload_n C dX5_meet_46 rfl 0 rfl ?_
              refine pw_get (v := .ref (gad G 11)) C iX5 (by decide) (pw_sh_0 _) rfl 3 (by decide) k2 rfl dX5_meet_47 ?_
              refine pw_getN (v := .ref (gad G (11 + 4))) C iX2 (pw_ltD pw_K11) (pw_shD pw_K11 _) rfl 9 (by decide) 24 rfl rfl dX5_meet_50 ?_
              refine pw_iload_n C dX5_meet_53 rfl 2 rfl ?_
              obtain ⟨hi54, h⟩ := fn_ix_s h
              refine pw_iald C (pw_ltD6 pw_K11 4 (by decide)) ((pw_shD4 pw_K11) _) hi54 dX5_meet_54 ?_
              refine pw_icmp_ne (tgt := 60) C dX5_meet_55 (by decide) (fun c55 => ?_) (fun c55 => ?_)
              · have h := fn_pos c55 h
                refine pw_aload_n C dX5_meet_60 rfl 0 rfl ?_
                refine pw_get (v := .ref (gad G 11)) C iX5 (by decide) (pw_sh_0 _) rfl 3 (by decide) k2 rfl dX5_meet_61 ?_
                obtain ⟨m64, hc64, h⟩ := fn_bv_s h
                refine pw_callVNv (rest := []) C (pw_ltD pw_K11) (pw_shD pw_K11 _) rfl (ct_X2_goHour l C.2.2.2.2.2.2.2.2 pw_K11 hc64) ⟨va_cnB 0 C.2.2.2.2.1 gX5_meet_X2_goHour_n138 rfl rfl rfl nm13 k15 (by decide +kernel) ⟨Nat.le_of_ble_eq_true rfl, Nat.le_of_ble_eq_true rfl⟩, k33, k34⟩ rfl rfl (Nat.le_of_ble_eq_true rfl) dX5_meet_64 ?_
                refine pw_iinc (v := (v3 + 1)) (lv' := [(3, .int (v3 + 1)), (0, .ref (gad G 0)), (1, .int a1), (2, .int a2)]) C dX5_meet_67 (q := 3) rfl rfl (by decide) rfl ?_
                refine pw_goto (tgt := 31) C dX5_meet_70 (by decide) ?_
                refine pw_sub [1, 2, 3, 0] rfl ?_
                exact ih _ _ h
              · have h := fn_neg c55 h
                refine pw_iload_n C dX5_meet_58 rfl 3 rfl ?_
                exact pw_iret C h dX5_meet_59
        refine pw_sub [1, 2, 3, 0] rfl ?_
        refine L31 _ (fun m73 h => ?_) _ _ _ h
        refine pw_ldc C k3 dX5_meet_73 ?_
        exact pw_iret C h dX5_meet_75
      · have h := fn_neg c18 h
        refine pw_ldc C k1 dX5_meet_21 ?_
        exact pw_iret C h dX5_meet_23
set_option maxHeartbeats 4000000 in
set_option maxRecDepth 100000 in
theorem ct_X5_round (l : Launch) {G : pw_G} (hG : pw_Ok G)   {μ μ' : pw_Mem} {r : Int32} (h : fn_X5_round μ = some (r, μ')) : Met l yX5_round wsX5_round ({ frames := 6, cells := 0, slots := 0, locals := 134 }) (va_Pc [.ref (gad G 0)] (pw_Pre G μ)) (va_Qi (fun (r1 : Int32) (u : pw_Mem) => r1 = r ∧ u = μ') (pw_B G) (gA G)) 0 0 (gA G) := by
  refine pw_met (lv := [(0, .ref (gad G 0))]) (own := RX5) (cc := cX5_round) (maxL := 2) (ret := some .int) hG rfl (by decide) rfl rfl (Nat.le_of_ble_eq_true rfl) ?_
  intro p e s m below meth c C
  have iX2 : ∀ w ∈ u_ws RX2 TX2 12, w ∈ wsX5_round := fun _ h => List.mem_cons_of_mem _ (List.mem_append_right _ (h))
  have iX5 : ∀ w ∈ u_ws RX5 TX5 10, w ∈ wsX5_round := fun _ h => List.mem_cons_of_mem _ (List.mem_append_left _ (List.mem_append_right _ (h)))
  have k1 := C.2.2.2.2.1 (.fieldLink RX5 25 "PulpitRoads" "now" "LPulpitRoads$Road;") (List.mem_cons_of_mem _ (List.mem_append_left _ (List.mem_append_left _ (List.mem_append_left _ (List.mem_of_getElem? (i := 0) rfl)))))
  have k11 := C.2.2.2.2.1 (.initialized RX2) (List.mem_cons_of_mem _ (List.mem_append_left _ (List.mem_append_left _ (List.mem_append_left _ (List.mem_of_getElem? (i := 10) rfl)))))
  have k2 := C.2.2.2.2.1 (.constant RX5 131 (-1000002)) (List.mem_cons_of_mem _ (List.mem_append_left _ (List.mem_append_left _ (List.mem_append_left _ (List.mem_of_getElem? (i := 1) rfl)))))
  have k29 := C.2.2.2.2.1 (.instanceMethod yX2_goHour) (List.mem_cons_of_mem _ (List.mem_append_left _ (List.mem_append_left _ (List.mem_append_right _ (List.mem_append_left _ (List.mem_of_getElem? (i := 4) rfl))))))
  have k3 := C.2.2.2.2.1 (.fieldLink RX5 29 "PulpitRoads" "foretold" "LPulpitRoads$Road;") (List.mem_cons_of_mem _ (List.mem_append_left _ (List.mem_append_left _ (List.mem_append_left _ (List.mem_of_getElem? (i := 2) rfl)))))
  have k30 := C.2.2.2.2.1 (.selects RX2 yX2_goHour yX2_goHour) (List.mem_cons_of_mem _ (List.mem_append_left _ (List.mem_append_left _ (List.mem_append_right _ (List.mem_append_left _ (List.mem_of_getElem? (i := 5) rfl))))))
  have k4 := C.2.2.2.2.1 (.constant RX5 196 (-1000000)) (List.mem_cons_of_mem _ (List.mem_append_left _ (List.mem_append_left _ (List.mem_append_left _ (List.mem_of_getElem? (i := 3) rfl)))))
  have k65 := C.2.2.2.2.1 (.instanceMethod yX2_hasPulpitsAs) (List.mem_cons_of_mem _ (List.mem_append_left _ (List.mem_append_left _ (List.mem_append_right _ (List.mem_append_right _ (List.mem_of_getElem? (i := 16) rfl))))))
  have k66 := C.2.2.2.2.1 (.selects RX2 yX2_hasPulpitsAs yX2_hasPulpitsAs) (List.mem_cons_of_mem _ (List.mem_append_left _ (List.mem_append_left _ (List.mem_append_right _ (List.mem_append_right _ (List.mem_of_getElem? (i := 17) rfl))))))
  have nm13 : va_Nw (.methodLinkNest RX5 138 yX2_goHour "PulpitRoads") s := C.2.2.2.2.2.2.2.1.2.1.2 ("PulpitRoads", 138, ⟨"PulpitRoads$Road", "goHour", "()V"⟩, "PulpitRoads") (List.mem_of_getElem? (i := 13) rfl)
  have nm22 : va_Nw (.methodLinkNest RX5 206 yX2_hasPulpitsAs "PulpitRoads") s := C.2.2.2.2.2.2.2.1.2.1.2 ("PulpitRoads", 206, ⟨"PulpitRoads$Road", "hasPulpitsAs", "(LPulpitRoads$Road;)Z"⟩, "PulpitRoads") (List.mem_of_getElem? (i := 22) rfl)
  unfold fn_X5_round at h
  refine pw_aload_n C dX5_round_0 rfl 0 rfl ?_
  refine pw_get (v := .ref (gad G 4)) C iX5 (by decide) (pw_sh_0 _) rfl 2 (by decide) k1 rfl dX5_round_1 ?_
  refine pw_getN (v := .int (μ 4 0)) C iX2 (pw_ltD pw_K4) (pw_shD pw_K4 _) rfl 0 (by decide) 3 rfl rfl dX5_round_4 ?_
  refine pw_if_ne (tgt := 13) C dX5_round_7 (by decide) (fun c7 => ?_) (fun c7 => ?_)
  · have h := fn_pos c7 h
    refine pw_aload_n C dX5_round_13 rfl 0 rfl ?_
    refine pw_iconst (v := (0 : Int32)) C dX5_round_14 (by decide) ?_
    obtain ⟨m15, hc15, h⟩ := fn_bv_s h
    refine pw_callVv (rest := []) C (by decide) (pw_sh_0 _) rfl (ct_X5_foretell l C.2.2.2.2.2.2.2.2 hc15) (cwV 1 C.2.2.2.2.1 gX5_round_X5_foretell rfl rfl rfl (by decide +kernel) ⟨Nat.le_of_ble_eq_true rfl, Nat.le_of_ble_eq_true rfl⟩) rfl rfl (Nat.le_of_ble_eq_true rfl) dX5_round_15 ?_
    refine pw_iconst (v := (1 : Int32)) C dX5_round_18 (by decide) ?_
    refine pw_istore_n (lv' := [(1, .int (1 : Int32)), (0, .ref (gad G 0))]) C dX5_round_19 rfl (by decide) rfl ?_
    have L20 : ∀ (k : pw_Mem → Option (Int32 × pw_Mem)) (hk : ∀  (m1 : pw_Mem), k m1 = some (r, μ') → pw_Go p l e ({ frames := 6, cells := 0, slots := 0, locals := 134 }) s m (([.ref (gad G 0)] : List Value).toArray) below meth c (MQ below (va_Qi (fun (r1 : Int32) (u : pw_Mem) => r1 = r ∧ u = μ') (pw_B G) (gA G)) (([.ref (gad G 0)] : List Value).toArray) s 0 0 (gA G)) G 2 56 [] [] m1) (n : Nat) (v1 : Int32) (m1 : pw_Mem), fl_X5_round_20 k  n v1 m1 = some (r, μ') → pw_Go p l e ({ frames := 6, cells := 0, slots := 0, locals := 134 }) s m (([.ref (gad G 0)] : List Value).toArray) below meth c (MQ below (va_Qi (fun (r1 : Int32) (u : pw_Mem) => r1 = r ∧ u = μ') (pw_B G) (gA G)) (([.ref (gad G 0)] : List Value).toArray) s 0 0 (gA G)) G 2 20 [(0, .ref (gad G 0)), (1, .int v1)] [] m1 := by
      intro k hk n
      induction n with
      | zero => intro v1 m1 h; exact nomatch (show (none : Option (Int32 × pw_Mem)) = some _ from h)
      | succ n ih =>
        intro v1 m1 h
        rw [fl_X5_round_20] at h
        refine pw_iload_n C dX5_round_20 rfl 1 rfl ?_
        refine pw_sipush (v := (200 : Int32)) C dX5_round_21 (by decide) ?_
        refine pw_icmp_gt (tgt := 56) C dX5_round_24 (by decide) (fun c24 => ?_) (fun c24 => ?_)
        · have h := fn_pos c24 h
          refine pw_sub [] rfl ?_
          exact hk _ h
        · have h := fn_neg c24 h
          refine pw_aload_n C dX5_round_27 rfl 0 rfl ?_
          refine pw_get (v := .ref (gad G 11)) C iX5 (by decide) (pw_sh_0 _) rfl 3 (by decide) k3 rfl dX5_round_28 ?_
          obtain ⟨m31, hc31, h⟩ := fn_bv_s h
          refine pw_callVNv (rest := []) C (pw_ltD pw_K11) (pw_shD pw_K11 _) rfl (ct_X2_goHour l C.2.2.2.2.2.2.2.2 pw_K11 hc31) ⟨va_cnB 0 C.2.2.2.2.1 gX5_round_X2_goHour_n138 rfl rfl rfl nm13 k11 (by decide +kernel) ⟨Nat.le_of_ble_eq_true rfl, Nat.le_of_ble_eq_true rfl⟩, k29, k30⟩ rfl rfl (Nat.le_of_ble_eq_true rfl) dX5_round_31 ?_
          refine pw_aload_n C dX5_round_34 rfl 0 rfl ?_
          refine pw_get (v := .ref (gad G 11)) C iX5 (by decide) (pw_sh_0 _) rfl 3 (by decide) k3 rfl dX5_round_35 ?_
          refine pw_aload_n C dX5_round_38 rfl 0 rfl ?_
          refine pw_get (v := .ref (gad G 4)) C iX5 (by decide) (pw_sh_0 _) rfl 2 (by decide) k1 rfl dX5_round_39 ?_
          obtain ⟨r42, m42, hc42, h⟩ := fn_bi_s h
          refine pw_callVNi (rest := []) C (pw_ltD pw_K11) (pw_shD pw_K11 _) rfl (ct_X2_hasPulpitsAs l C.2.2.2.2.2.2.2.2 pw_K11 pw_K4 hc42) ⟨va_cnB 1 C.2.2.2.2.1 gX5_round_X2_hasPulpitsAs_n206 rfl rfl rfl nm22 k11 (by decide +kernel) ⟨Nat.le_of_ble_eq_true rfl, Nat.le_of_ble_eq_true rfl⟩, k65, k66⟩ rfl rfl (Nat.le_of_ble_eq_true rfl) dX5_round_42 ?_
          refine pw_if_eq (tgt := 50) C dX5_round_45 (by decide) (fun c45 => ?_) (fun c45 => ?_)
          · have h := fn_pos c45 h
            refine pw_iinc (v := (v1 + 1)) (lv' := [(1, .int (v1 + 1)), (0, .ref (gad G 0))]) C dX5_round_50 (q := 1) rfl rfl (by decide) rfl ?_
            refine pw_goto (tgt := 20) C dX5_round_53 (by decide) ?_
            refine pw_sub [1, 0] rfl ?_
            exact ih _ _ h
          · have h := fn_neg c45 h
            refine pw_iload_n C dX5_round_48 rfl 1 rfl ?_
            exact pw_iret C h dX5_round_49
    refine pw_sub [1, 0] rfl ?_
    refine L20 _ (fun m56 h => ?_) _ _ _ h
    refine pw_ldc C k4 dX5_round_56 ?_
    exact pw_iret C h dX5_round_58
  · have h := fn_neg c7 h
    refine pw_ldc C k2 dX5_round_10 ?_
    exact pw_iret C h dX5_round_12
set_option maxHeartbeats 4000000 in
set_option maxRecDepth 100000 in
theorem ct_X5_best (l : Launch) {G : pw_G} (hG : pw_Ok G) {a1 : Int32} {a2 : Int32} {a3 : Int32} {a4 : Int32}  {μ μ' : pw_Mem} {r : Int32} (h : fn_X5_best a1 a2 a3 a4 μ = some (r, μ')) : Met l yX5_best wsX5_best ({ frames := 5, cells := 0, slots := 0, locals := 113 }) (va_Pc [.ref (gad G 0), .int a1, .int a2, .int a3, .int a4] (pw_Pre G μ)) (va_Qi (fun (r1 : Int32) (u : pw_Mem) => r1 = r ∧ u = μ') (pw_B G) (gA G)) 0 0 (gA G) := by
  refine pw_met (lv := [(0, .ref (gad G 0)), (1, .int a1), (2, .int a2), (3, .int a3), (4, .int a4)]) (own := RX5) (cc := cX5_best) (maxL := 9) (ret := some .int) hG rfl (by decide) rfl rfl (Nat.le_of_ble_eq_true rfl) ?_
  intro p e s m below meth c C
  have iX2 : ∀ w ∈ u_ws RX2 TX2 12, w ∈ wsX5_best := fun _ h => List.mem_cons_of_mem _ (List.mem_append_right _ (h))
  have iX5 : ∀ w ∈ u_ws RX5 TX5 10, w ∈ wsX5_best := fun _ h => List.mem_cons_of_mem _ (List.mem_append_left _ (List.mem_append_right _ (h)))
  have k1 := C.2.2.2.2.1 (.constant RX5 59 (-1000001)) (List.mem_cons_of_mem _ (List.mem_append_left _ (List.mem_append_left _ (List.mem_append_left _ (List.mem_of_getElem? (i := 0) rfl)))))
  have k16 := C.2.2.2.2.1 (.instanceMethod yX2_take) (List.mem_cons_of_mem _ (List.mem_append_left _ (List.mem_append_left _ (List.mem_append_left _ (List.mem_of_getElem? (i := 15) rfl)))))
  have k17 := C.2.2.2.2.1 (.initialized RX2) (List.mem_cons_of_mem _ (List.mem_append_left _ (List.mem_append_left _ (List.mem_append_left _ (List.mem_of_getElem? (i := 16) rfl)))))
  have k18 := C.2.2.2.2.1 (.selects RX2 yX2_take yX2_take) (List.mem_cons_of_mem _ (List.mem_append_left _ (List.mem_append_left _ (List.mem_append_left _ (List.mem_of_getElem? (i := 17) rfl)))))
  have k2 := C.2.2.2.2.1 (.fieldLink RX5 25 "PulpitRoads" "now" "LPulpitRoads$Road;") (List.mem_cons_of_mem _ (List.mem_append_left _ (List.mem_append_left _ (List.mem_append_left _ (List.mem_of_getElem? (i := 1) rfl)))))
  have k3 := C.2.2.2.2.1 (.fieldLink RX5 29 "PulpitRoads" "foretold" "LPulpitRoads$Road;") (List.mem_cons_of_mem _ (List.mem_append_left _ (List.mem_append_left _ (List.mem_append_left _ (List.mem_of_getElem? (i := 2) rfl)))))
  have k31 := C.2.2.2.2.1 (.instanceMethod yX2_goHours) (List.mem_cons_of_mem _ (List.mem_append_left _ (List.mem_append_left _ (List.mem_append_right _ (List.mem_append_left _ (List.mem_of_getElem? (i := 6) rfl))))))
  have k32 := C.2.2.2.2.1 (.selects RX2 yX2_goHours yX2_goHours) (List.mem_cons_of_mem _ (List.mem_append_left _ (List.mem_append_left _ (List.mem_append_right _ (List.mem_append_left _ (List.mem_of_getElem? (i := 7) rfl))))))
  have nm11 : va_Nw (.methodLinkNest RX5 118 yX2_take "PulpitRoads") s := C.2.2.2.2.2.2.2.1.2.1.2 ("PulpitRoads", 118, ⟨"PulpitRoads$Road", "take", "(LPulpitRoads$Road;)V"⟩, "PulpitRoads") (List.mem_of_getElem? (i := 11) rfl)
  have nm19 : va_Nw (.methodLinkNest RX5 209 yX2_goHours "PulpitRoads") s := C.2.2.2.2.2.2.2.1.2.1.2 ("PulpitRoads", 209, ⟨"PulpitRoads$Road", "goHours", "(I)V"⟩, "PulpitRoads") (List.mem_of_getElem? (i := 19) rfl)
  unfold fn_X5_best at h
  refine pw_aload_n C dX5_best_0 rfl 0 rfl ?_
  refine pw_iload_n C dX5_best_1 rfl 1 rfl ?_
  obtain ⟨r2, m2, hc2, h⟩ := fn_bi_s h
  refine pw_callVi (rest := []) C (by decide) (pw_sh_0 _) rfl (ct_X5_isPulpit l C.2.2.2.2.2.2.2.2 hc2) (cwV 1 C.2.2.2.2.1 gX5_best_X5_isPulpit rfl rfl rfl (by decide +kernel) ⟨Nat.le_of_ble_eq_true rfl, Nat.le_of_ble_eq_true rfl⟩) rfl rfl (Nat.le_of_ble_eq_true rfl) dX5_best_2 ?_
  refine pw_if_eq (tgt := 36) C dX5_best_5 (by decide) (fun c5 => ?_) (fun c5 => ?_)
  · have h := fn_pos c5 h
    refine pw_ldc C k1 dX5_best_36 ?_
    exact pw_iret C h dX5_best_38
  · have h := fn_neg c5 h
    refine pw_aload_n C dX5_best_8 rfl 0 rfl ?_
    refine pw_iload_n C dX5_best_9 rfl 2 rfl ?_
    obtain ⟨r10, m10, hc10, h⟩ := fn_bi_s h
    refine pw_callVi (rest := []) C (by decide) (pw_sh_0 _) rfl (ct_X5_isStretch l C.2.2.2.2.2.2.2.2 hc10) (cwV 1 C.2.2.2.2.1 gX5_best_X5_isStretch rfl rfl rfl (by decide +kernel) ⟨Nat.le_of_ble_eq_true rfl, Nat.le_of_ble_eq_true rfl⟩) rfl rfl (Nat.le_of_ble_eq_true rfl) dX5_best_10 ?_
    refine pw_if_eq (tgt := 36) C dX5_best_13 (by decide) (fun c13 => ?_) (fun c13 => ?_)
    · have h := fn_pos c13 h
      refine pw_ldc C k1 dX5_best_36 ?_
      exact pw_iret C h dX5_best_38
    · have h := fn_neg c13 h
      refine pw_iload_n C dX5_best_16 rfl 3 rfl ?_
      refine pw_iconst (v := (1 : Int32)) C dX5_best_17 (by decide) ?_
      refine pw_bipush (v := (30 : Int32)) C dX5_best_18 (by decide) ?_
      obtain ⟨r20, m20, hc20, h⟩ := fn_bi_s h
      refine pw_callSi (rest := []) C (ct_X5_isWithin l C.2.2.2.2.2.2.2.2 hc20) (va_cwS 3 C.2.2.2.2.1 gX5_best_X5_isWithin rfl rfl rfl (by decide +kernel) ⟨Nat.le_of_ble_eq_true rfl, Nat.le_of_ble_eq_true rfl⟩) rfl rfl (Nat.le_of_ble_eq_true rfl) dX5_best_20 ?_
      refine pw_if_eq (tgt := 36) C dX5_best_23 (by decide) (fun c23 => ?_) (fun c23 => ?_)
      · have h := fn_pos c23 h
        refine pw_ldc C k1 dX5_best_36 ?_
        exact pw_iret C h dX5_best_38
      · have h := fn_neg c23 h
        refine pw_iload C dX5_best_26 4 rfl ?_
        refine pw_iconst (v := (0 : Int32)) C dX5_best_28 (by decide) ?_
        refine pw_iconst (v := (1 : Int32)) C dX5_best_29 (by decide) ?_
        obtain ⟨r30, m30, hc30, h⟩ := fn_bi_s h
        refine pw_callSi (rest := []) C (ct_X5_isWithin l C.2.2.2.2.2.2.2.2 hc30) (va_cwS 3 C.2.2.2.2.1 gX5_best_X5_isWithin rfl rfl rfl (by decide +kernel) ⟨Nat.le_of_ble_eq_true rfl, Nat.le_of_ble_eq_true rfl⟩) rfl rfl (Nat.le_of_ble_eq_true rfl) dX5_best_30 ?_
        refine pw_if_ne (tgt := 39) C dX5_best_33 (by decide) (fun c33 => ?_) (fun c33 => ?_)
        · have h := fn_pos c33 h
          refine pw_iconst (v := (-1 : Int32)) C dX5_best_39 (by decide) ?_
          refine pw_istore (lv' := [(5, .int (-1 : Int32)), (0, .ref (gad G 0)), (1, .int a1), (2, .int a2), (3, .int a3), (4, .int a4)]) C dX5_best_40 (by decide) rfl ?_
          refine pw_iconst (v := (0 : Int32)) C dX5_best_42 (by decide) ?_
          refine pw_istore (lv' := [(6, .int (0 : Int32)), (5, .int (-1 : Int32)), (0, .ref (gad G 0)), (1, .int a1), (2, .int a2), (3, .int a3), (4, .int a4)]) C dX5_best_43 (by decide) rfl ?_
          refine pw_iconst (v := (0 : Int32)) C dX5_best_45 (by decide) ?_
          refine pw_istore (lv' := [(7, .int (0 : Int32)), (6, .int (0 : Int32)), (5, .int (-1 : Int32)), (0, .ref (gad G 0)), (1, .int a1), (2, .int a2), (3, .int a3), (4, .int a4)]) C dX5_best_46 (by decide) rfl ?_
          have L48 : ∀ (k : Int32 → Int32 → pw_Mem → Option (Int32 × pw_Mem)) (hk : ∀ (v5 : Int32) (v6 : Int32) (m1 : pw_Mem), k v5 v6 m1 = some (r, μ') → pw_Go p l e ({ frames := 5, cells := 0, slots := 0, locals := 113 }) s m (([.ref (gad G 0), .int a1, .int a2, .int a3, .int a4] : List Value).toArray) below meth c (MQ below (va_Qi (fun (r1 : Int32) (u : pw_Mem) => r1 = r ∧ u = μ') (pw_B G) (gA G)) (([.ref (gad G 0), .int a1, .int a2, .int a3, .int a4] : List Value).toArray) s 0 0 (gA G)) G 9 125 [(4, .int a4), (5, .int v5), (6, .int v6)] [] m1) (n : Nat) (v5 : Int32) (v6 : Int32) (v7 : Int32) (m1 : pw_Mem), fl_X5_best_48 k a1 a2 a3 a4 n v5 v6 v7 m1 = some (r, μ') → pw_Go p l e ({ frames := 5, cells := 0, slots := 0, locals := 113 }) s m (([.ref (gad G 0), .int a1, .int a2, .int a3, .int a4] : List Value).toArray) below meth c (MQ below (va_Qi (fun (r1 : Int32) (u : pw_Mem) => r1 = r ∧ u = μ') (pw_B G) (gA G)) (([.ref (gad G 0), .int a1, .int a2, .int a3, .int a4] : List Value).toArray) s 0 0 (gA G)) G 9 48 [(0, .ref (gad G 0)), (1, .int a1), (2, .int a2), (3, .int a3), (4, .int a4), (5, .int v5), (6, .int v6), (7, .int v7)] [] m1 := by
            intro k hk n
            induction n with
            | zero => intro v5 v6 v7 m1 h; exact nomatch (show (none : Option (Int32 × pw_Mem)) = some _ from h)
            | succ n ih =>
              intro v5 v6 v7 m1 h
              rw [fl_X5_best_48] at h
              refine pw_iload C dX5_best_48 7 rfl ?_
              refine pw_aload_n C dX5_best_50 rfl 0 rfl ?_
              refine pw_get (v := .ref (gad G 4)) C iX5 (by decide) (pw_sh_0 _) rfl 2 (by decide) k2 rfl dX5_best_51 ?_
              refine pw_getN (v := .int (m1 4 4)) C iX2 (pw_ltD pw_K4) (pw_shD pw_K4 _) rfl 4 (by decide) 11 rfl rfl dX5_best_54 ?_
              refine pw_icmp_ge (tgt := 125) C dX5_best_57 (by decide) (fun c57 => ?_) (fun c57 => ?_)
              · have h := fn_pos c57 h
                refine pw_sub [4, 5, 6] rfl ?_
                exact hk _ _ _ h
              · have h := fn_neg c57 h
                refine pw_aload_n C dX5_best_60 rfl 0 rfl ?_
                refine pw_get (v := .ref (gad G 11)) C iX5 (by decide) (pw_sh_0 _) rfl 3 (by decide) k3 rfl dX5_best_61 ?_
                refine pw_aload_n C dX5_best_64 rfl 0 rfl ?_
                refine pw_get (v := .ref (gad G 4)) C iX5 (by decide) (pw_sh_0 _) rfl 2 (by decide) k2 rfl dX5_best_65 ?_
                obtain ⟨m68, hc68, h⟩ := fn_bv_s h
                refine pw_callVNv (rest := []) C (pw_ltD pw_K11) (pw_shD pw_K11 _) rfl (ct_X2_take l C.2.2.2.2.2.2.2.2 pw_K11 pw_K4 hc68) ⟨va_cnB 1 C.2.2.2.2.1 gX5_best_X2_take_n118 rfl rfl rfl nm11 k17 (by decide +kernel) ⟨Nat.le_of_ble_eq_true rfl, Nat.le_of_ble_eq_true rfl⟩, k16, k18⟩ rfl rfl (Nat.le_of_ble_eq_true rfl) dX5_best_68 ?_
                refine pw_aload_n C dX5_best_71 rfl 0 rfl ?_
                refine pw_get (v := .ref (gad G 11)) C iX5 (by decide) (pw_sh_0 _) rfl 3 (by decide) k3 rfl dX5_best_72 ?_
                refine pw_getN (v := .ref (gad G (11 + 4))) C iX2 (pw_ltD pw_K11) (pw_shD pw_K11 _) rfl 9 (by decide) 24 rfl rfl dX5_best_75 ?_
                refine pw_iload_n C dX5_best_78 rfl 1 rfl ?_
                refine pw_iload C dX5_best_79 7 rfl ?_
                obtain ⟨hi81, h⟩ := fn_ix_s h
                refine pw_iast C (pw_ltD6 pw_K11 4 (by decide)) (pw_shD4 pw_K11) hi81 dX5_best_81 ?_
                refine pw_aload_n C dX5_best_82 rfl 0 rfl ?_
                refine pw_get (v := .ref (gad G 11)) C iX5 (by decide) (pw_sh_0 _) rfl 3 (by decide) k3 rfl dX5_best_83 ?_
                refine pw_iload_n C dX5_best_86 rfl 3 rfl ?_
                obtain ⟨m87, hc87, h⟩ := fn_bv_s h
                refine pw_callVNv (rest := []) C (pw_ltD pw_K11) (pw_shD pw_K11 _) rfl (ct_X2_goHours l C.2.2.2.2.2.2.2.2 pw_K11 hc87) ⟨va_cnB 1 C.2.2.2.2.1 gX5_best_X2_goHours_n209 rfl rfl rfl nm19 k17 (by decide +kernel) ⟨Nat.le_of_ble_eq_true rfl, Nat.le_of_ble_eq_true rfl⟩, k31, k32⟩ rfl rfl (Nat.le_of_ble_eq_true rfl) dX5_best_87 ?_
                refine pw_aload_n C dX5_best_90 rfl 0 rfl ?_
                refine pw_get (v := .ref (gad G 11)) C iX5 (by decide) (pw_sh_0 _) rfl 3 (by decide) k3 rfl dX5_best_91 ?_
                refine pw_getN (v := .ref (gad G (11 + 2))) C iX2 (pw_ltD pw_K11) (pw_shD pw_K11 _) rfl 7 (by decide) 17 rfl rfl dX5_best_94 ?_
                refine pw_iload_n C dX5_best_97 rfl 2 rfl ?_
                obtain ⟨hi98, h⟩ := fn_ix_s h
                refine pw_iald C (pw_ltD6 pw_K11 2 (by decide)) ((pw_shD2 pw_K11) _) hi98 dX5_best_98 ?_
                obtain ⟨r99, m99, hc99, h⟩ := fn_bi_s h
                refine pw_callSi (rest := []) C (ct_J6_bitCount_0f7a4 l C.2.2.2.2.2.2.2.2 hc99) (va_cwS 1 C.2.2.2.2.1 gX5_best_J6_bitCount_0f7a4 rfl rfl rfl (by decide +kernel) ⟨Nat.le_of_ble_eq_true rfl, Nat.le_of_ble_eq_true rfl⟩) rfl rfl (Nat.le_of_ble_eq_true rfl) dX5_best_99 ?_
                refine pw_istore (lv' := [(8, .int r99), (0, .ref (gad G 0)), (1, .int a1), (2, .int a2), (3, .int a3), (4, .int a4), (5, .int v5), (6, .int v6), (7, .int v7)]) C dX5_best_102 (by decide) rfl ?_
                refine pw_iload C dX5_best_104 0 rfl ?_
                refine pw_iload C dX5_best_106 6 rfl ?_
                refine fn_jn2_s (fun x119_0 x119_1 m119 => pw_Go p l e ({ frames := 5, cells := 0, slots := 0, locals := 113 }) s m (([.ref (gad G 0), .int a1, .int a2, .int a3, .int a4] : List Value).toArray) below meth c (MQ below (va_Qi (fun (r1 : Int32) (u : pw_Mem) => r1 = r ∧ u = μ') (pw_B G) (gA G)) (([.ref (gad G 0), .int a1, .int a2, .int a3, .int a4] : List Value).toArray) s 0 0 (gA G)) G 9 119 [(0, .ref (gad G 0)), (1, .int a1), (2, .int a2), (3, .int a3), (4, .int a4), (5, .int x119_0), (6, .int x119_1), (7, .int v7)] [] m119) h (fun x119_0 x119_1 m119 h => ?_) (fun k119 hk119 h => ?_)
                · refine pw_iinc (v := (v7 + 1)) (lv' := [(7, .int (v7 + 1)), (0, .ref (gad G 0)), (1, .int a1), (2, .int a2), (3, .int a3), (4, .int a4), (5, .int x119_0), (6, .int x119_1)]) C dX5_best_119 (q := 7) rfl rfl (by decide) rfl ?_
                  refine pw_goto (tgt := 48) C dX5_best_122 (by decide) ?_
                  refine pw_sub [1, 2, 3, 4, 5, 6, 7, 0] rfl ?_
                  exact ih _ _ _ _ h
                · refine pw_icmp_le (tgt := 119) C dX5_best_108 (by decide) (fun c108 => ?_) (fun c108 => ?_)
                  · have h := fn_pos c108 h
                    refine pw_sub [1, 2, 3, 4, 5, 6, 7, 8] rfl ?_
                    exact hk119 _ _ _ h
                  · have h := fn_neg c108 h
                    refine pw_iload C dX5_best_111 0 rfl ?_
                    refine pw_istore (lv' := [(5, .int r99), (8, .int r99), (0, .ref (gad G 0)), (1, .int a1), (2, .int a2), (3, .int a3), (4, .int a4), (6, .int v6), (7, .int v7)]) C dX5_best_113 (by decide) rfl ?_
                    refine pw_iload C dX5_best_115 8 rfl ?_
                    refine pw_istore (lv' := [(6, .int v7), (5, .int r99), (8, .int r99), (0, .ref (gad G 0)), (1, .int a1), (2, .int a2), (3, .int a3), (4, .int a4), (7, .int v7)]) C dX5_best_117 (by decide) rfl ?_
                    refine pw_sub [3, 4, 5, 6, 7, 1, 0, 8] rfl ?_
                    exact hk119 _ _ _ h
          refine pw_sub [3, 4, 5, 6, 7, 2, 1, 0] rfl ?_
          refine L48 _ (fun y48_5 y48_6 m125 h => ?_) _ _ _ _ _ h
          refine pw_iload C dX5_best_125 0 rfl ?_
          refine pw_if_ne (tgt := 135) C dX5_best_127 (by decide) (fun c127 => ?_) (fun c127 => ?_)
          · have h := fn_pos c127 h
            refine pw_iload C dX5_best_135 1 rfl ?_
            exact pw_iret C h dX5_best_137
          · have h := fn_neg c127 h
            refine pw_iload C dX5_best_130 2 rfl ?_
            refine pw_goto (tgt := 137) C dX5_best_132 (by decide) ?_
            exact pw_iret C h dX5_best_137
        · have h := fn_neg c33 h
          refine pw_ldc C k1 dX5_best_36 ?_
          exact pw_iret C h dX5_best_38
set_option maxHeartbeats 4000000 in
set_option maxRecDepth 100000 in
theorem ct_X5_piece (l : Launch) {G : pw_G} (hG : pw_Ok G) {a1 : Int32}  {μ μ' : pw_Mem} {r : Int32} (h : fn_X5_piece a1 μ = some (r, μ')) : Met l yX5_piece wsX5_piece ({ frames := 1, cells := 0, slots := 0, locals := 23 }) (va_Pc [.ref (gad G 0), .int a1] (pw_Pre G μ)) (va_Qi (fun (r1 : Int32) (u : pw_Mem) => r1 = r ∧ u = μ') (pw_B G) (gA G)) 0 0 (gA G) := by
  refine pw_met (lv := [(0, .ref (gad G 0)), (1, .int a1)]) (own := RX5) (cc := cX5_piece) (maxL := 6) (ret := some .int) hG rfl (by decide) rfl rfl (Nat.le_of_ble_eq_true rfl) ?_
  intro p e s m below meth c C
  have iX2 : ∀ w ∈ u_ws RX2 TX2 12, w ∈ wsX5_piece := fun _ h => List.mem_cons_of_mem _ (List.mem_append_right _ (h))
  have iX5 : ∀ w ∈ u_ws RX5 TX5 10, w ∈ wsX5_piece := fun _ h => List.mem_cons_of_mem _ (List.mem_append_left _ (List.mem_append_right _ (h)))
  have k1 := C.2.2.2.2.1 (.fieldLink RX5 25 "PulpitRoads" "now" "LPulpitRoads$Road;") (List.mem_cons_of_mem _ (List.mem_append_left _ (List.mem_append_left _ (List.mem_append_left _ (List.mem_of_getElem? (i := 0) rfl)))))
  have k16 := C.2.2.2.2.1 (.instanceMethod yX2_heardAtAny) (List.mem_cons_of_mem _ (List.mem_append_left _ (List.mem_append_left _ (List.mem_append_left _ (List.mem_of_getElem? (i := 15) rfl)))))
  have k17 := C.2.2.2.2.1 (.initialized RX2) (List.mem_cons_of_mem _ (List.mem_append_left _ (List.mem_append_left _ (List.mem_append_left _ (List.mem_of_getElem? (i := 16) rfl)))))
  have k18 := C.2.2.2.2.1 (.selects RX2 yX2_heardAtAny yX2_heardAtAny) (List.mem_cons_of_mem _ (List.mem_append_left _ (List.mem_append_left _ (List.mem_append_left _ (List.mem_of_getElem? (i := 17) rfl)))))
  have k2 := C.2.2.2.2.1 (.constant RX5 131 (-1000002)) (List.mem_cons_of_mem _ (List.mem_append_left _ (List.mem_append_left _ (List.mem_append_left _ (List.mem_of_getElem? (i := 1) rfl)))))
  have k22 := C.2.2.2.2.1 (.instanceMethod yX2_allWords) (List.mem_cons_of_mem _ (List.mem_append_left _ (List.mem_append_left _ (List.mem_append_left _ (List.mem_of_getElem? (i := 21) rfl)))))
  have k23 := C.2.2.2.2.1 (.selects RX2 yX2_allWords yX2_allWords) (List.mem_cons_of_mem _ (List.mem_append_left _ (List.mem_append_left _ (List.mem_append_left _ (List.mem_of_getElem? (i := 22) rfl)))))
  have k3 := C.2.2.2.2.1 (.constant RX5 59 (-1000001)) (List.mem_cons_of_mem _ (List.mem_append_left _ (List.mem_append_left _ (List.mem_append_left _ (List.mem_of_getElem? (i := 2) rfl)))))
  have k4 := C.2.2.2.2.1 (.constant RX5 196 (-1000000)) (List.mem_cons_of_mem _ (List.mem_append_left _ (List.mem_append_left _ (List.mem_append_left _ (List.mem_of_getElem? (i := 3) rfl)))))
  have nm20 : va_Nw (.methodLinkNest RX5 200 yX2_allWords "PulpitRoads") s := C.2.2.2.2.2.2.2.1.2.1.2 ("PulpitRoads", 200, ⟨"PulpitRoads$Road", "allWords", "()I"⟩, "PulpitRoads") (List.mem_of_getElem? (i := 20) rfl)
  have nm21 : va_Nw (.methodLinkNest RX5 203 yX2_heardAtAny "PulpitRoads") s := C.2.2.2.2.2.2.2.1.2.1.2 ("PulpitRoads", 203, ⟨"PulpitRoads$Road", "heardAtAny", "(I)I"⟩, "PulpitRoads") (List.mem_of_getElem? (i := 21) rfl)
  unfold fn_X5_piece at h
  refine pw_aload_n C dX5_piece_0 rfl 0 rfl ?_
  refine pw_get (v := .ref (gad G 4)) C iX5 (by decide) (pw_sh_0 _) rfl 2 (by decide) k1 rfl dX5_piece_1 ?_
  refine pw_getN (v := .int (μ 4 0)) C iX2 (pw_ltD pw_K4) (pw_shD pw_K4 _) rfl 0 (by decide) 3 rfl rfl dX5_piece_4 ?_
  refine pw_if_ne (tgt := 13) C dX5_piece_7 (by decide) (fun c7 => ?_) (fun c7 => ?_)
  · have h := fn_pos c7 h
    refine pw_iload_n C dX5_piece_13 rfl 1 rfl ?_
    refine pw_iconst (v := (0 : Int32)) C dX5_piece_14 (by decide) ?_
    refine pw_iconst (v := (1 : Int32)) C dX5_piece_15 (by decide) ?_
    obtain ⟨r16, m16, hc16, h⟩ := fn_bi_s h
    refine pw_callSi (rest := []) C (ct_X5_isWithin l C.2.2.2.2.2.2.2.2 hc16) (va_cwS 3 C.2.2.2.2.1 gX5_piece_X5_isWithin rfl rfl rfl (by decide +kernel) ⟨Nat.le_of_ble_eq_true rfl, Nat.le_of_ble_eq_true rfl⟩) rfl rfl (Nat.le_of_ble_eq_true rfl) dX5_piece_16 ?_
    refine pw_if_ne (tgt := 25) C dX5_piece_19 (by decide) (fun c19 => ?_) (fun c19 => ?_)
    · have h := fn_pos c19 h
      refine pw_ldc C k4 dX5_piece_25 ?_
      refine pw_istore_n (lv' := [(2, .int (-1000000 : Int32)), (0, .ref (gad G 0)), (1, .int a1)]) C dX5_piece_27 rfl (by decide) rfl ?_
      refine pw_ldc C k4 dX5_piece_28 ?_
      refine pw_istore_n (lv' := [(3, .int (-1000000 : Int32)), (2, .int (-1000000 : Int32)), (0, .ref (gad G 0)), (1, .int a1)]) C dX5_piece_30 rfl (by decide) rfl ?_
      refine pw_iconst (v := (1 : Int32)) C dX5_piece_31 (by decide) ?_
      refine pw_istore (lv' := [(4, .int (1 : Int32)), (3, .int (-1000000 : Int32)), (2, .int (-1000000 : Int32)), (0, .ref (gad G 0)), (1, .int a1)]) C dX5_piece_32 (by decide) rfl ?_
      have L34 : ∀ (k : Int32 → Int32 → pw_Mem → Option (Int32 × pw_Mem)) (hk : ∀ (v2 : Int32) (v3 : Int32) (m1 : pw_Mem), k v2 v3 m1 = some (r, μ') → pw_Go p l e ({ frames := 1, cells := 0, slots := 0, locals := 23 }) s m (([.ref (gad G 0), .int a1] : List Value).toArray) below meth c (MQ below (va_Qi (fun (r1 : Int32) (u : pw_Mem) => r1 = r ∧ u = μ') (pw_B G) (gA G)) (([.ref (gad G 0), .int a1] : List Value).toArray) s 0 0 (gA G)) G 6 98 [(1, .int a1), (2, .int v2), (3, .int v3)] [] m1) (n : Nat) (v2 : Int32) (v3 : Int32) (v4 : Int32) (m1 : pw_Mem), fl_X5_piece_34 k a1 n v2 v3 v4 m1 = some (r, μ') → pw_Go p l e ({ frames := 1, cells := 0, slots := 0, locals := 23 }) s m (([.ref (gad G 0), .int a1] : List Value).toArray) below meth c (MQ below (va_Qi (fun (r1 : Int32) (u : pw_Mem) => r1 = r ∧ u = μ') (pw_B G) (gA G)) (([.ref (gad G 0), .int a1] : List Value).toArray) s 0 0 (gA G)) G 6 34 [(0, .ref (gad G 0)), (1, .int a1), (2, .int v2), (3, .int v3), (4, .int v4)] [] m1 := by
        intro k hk n
        induction n with
        | zero => intro v2 v3 v4 m1 h; exact nomatch (show (none : Option (Int32 × pw_Mem)) = some _ from h)
        | succ n ih =>
          intro v2 v3 v4 m1 h
          rw [fl_X5_piece_34] at h
          refine pw_iload C dX5_piece_34 4 rfl ?_
          refine pw_iconst (v := (1 : Int32)) C dX5_piece_36 (by decide) ?_
          refine pw_aload_n C dX5_piece_37 rfl 0 rfl ?_
          refine pw_get (v := .ref (gad G 4)) C iX5 (by decide) (pw_sh_0 _) rfl 2 (by decide) k1 rfl dX5_piece_38 ?_
          refine pw_getN (v := .int (m1 4 4)) C iX2 (pw_ltD pw_K4) (pw_shD pw_K4 _) rfl 4 (by decide) 11 rfl rfl dX5_piece_41 ?_
          refine pw_ishl C dX5_piece_44 ?_
          refine pw_icmp_ge (tgt := 98) C dX5_piece_45 (by decide) (fun c45 => ?_) (fun c45 => ?_)
          · have h := fn_pos c45 h
            refine pw_sub [1, 2, 3] rfl ?_
            exact hk _ _ _ h
          · have h := fn_neg c45 h
            refine pw_iload C dX5_piece_48 4 rfl ?_
            obtain ⟨r50, m50, hc50, h⟩ := fn_bi_s h
            refine pw_callSi (rest := []) C (ct_J6_bitCount_0f7a4 l C.2.2.2.2.2.2.2.2 hc50) (va_cwS 1 C.2.2.2.2.1 gX5_piece_J6_bitCount_0f7a4 rfl rfl rfl (by decide +kernel) ⟨Nat.le_of_ble_eq_true rfl, Nat.le_of_ble_eq_true rfl⟩) rfl rfl (Nat.le_of_ble_eq_true rfl) dX5_piece_50 ?_
            refine pw_istore (lv' := [(5, .int r50), (0, .ref (gad G 0)), (1, .int a1), (2, .int v2), (3, .int v3), (4, .int v4)]) C dX5_piece_53 (by decide) rfl ?_
            refine pw_iload_n C dX5_piece_55 rfl 3 rfl ?_
            refine pw_ldc C k4 dX5_piece_56 ?_
            refine fn_jn2_s (fun x92_0 x92_1 m92 => pw_Go p l e ({ frames := 1, cells := 0, slots := 0, locals := 23 }) s m (([.ref (gad G 0), .int a1] : List Value).toArray) below meth c (MQ below (va_Qi (fun (r1 : Int32) (u : pw_Mem) => r1 = r ∧ u = μ') (pw_B G) (gA G)) (([.ref (gad G 0), .int a1] : List Value).toArray) s 0 0 (gA G)) G 6 92 [(0, .ref (gad G 0)), (1, .int a1), (2, .int x92_0), (3, .int x92_1), (4, .int v4)] [] m92) h (fun x92_0 x92_1 m92 h => ?_) (fun k92 hk92 h => ?_)
            · refine pw_iinc (v := (v4 + 1)) (lv' := [(4, .int (v4 + 1)), (0, .ref (gad G 0)), (1, .int a1), (2, .int x92_0), (3, .int x92_1)]) C dX5_piece_92 (q := 4) rfl rfl (by decide) rfl ?_
              refine pw_goto (tgt := 34) C dX5_piece_95 (by decide) ?_
              refine pw_sub [1, 2, 3, 4, 0] rfl ?_
              exact ih _ _ _ _ h
            · refine fn_jn0_s (fun m67 => pw_Go p l e ({ frames := 1, cells := 0, slots := 0, locals := 23 }) s m (([.ref (gad G 0), .int a1] : List Value).toArray) below meth c (MQ below (va_Qi (fun (r1 : Int32) (u : pw_Mem) => r1 = r ∧ u = μ') (pw_B G) (gA G)) (([.ref (gad G 0), .int a1] : List Value).toArray) s 0 0 (gA G)) G 6 67 [(0, .ref (gad G 0)), (1, .int a1), (2, .int v2), (3, .int v3), (4, .int v4), (5, .int r50)] [] m67) h (fun m67 h => ?_) (fun k67 hk67 h => ?_)
              · refine pw_aload_n C dX5_piece_67 rfl 0 rfl ?_
                refine pw_get (v := .ref (gad G 4)) C iX5 (by decide) (pw_sh_0 _) rfl 2 (by decide) k1 rfl dX5_piece_68 ?_
                refine pw_iload C dX5_piece_71 4 rfl ?_
                obtain ⟨r73, m73, hc73, h⟩ := fn_bi_s h
                refine pw_callVNi (rest := []) C (pw_ltD pw_K4) (pw_shD pw_K4 _) rfl (ct_X2_heardAtAny l C.2.2.2.2.2.2.2.2 pw_K4 hc73) ⟨va_cnB 1 C.2.2.2.2.1 gX5_piece_X2_heardAtAny_n203 rfl rfl rfl nm21 k17 (by decide +kernel) ⟨Nat.le_of_ble_eq_true rfl, Nat.le_of_ble_eq_true rfl⟩, k16, k18⟩ rfl rfl (Nat.le_of_ble_eq_true rfl) dX5_piece_73 ?_
                refine pw_aload_n C dX5_piece_76 rfl 0 rfl ?_
                refine pw_get (v := .ref (gad G 4)) C iX5 (by decide) (pw_sh_0 _) rfl 2 (by decide) k1 rfl dX5_piece_77 ?_
                obtain ⟨r80, m80, hc80, h⟩ := fn_bi_s h
                refine pw_callVNi (rest := [.int r73]) C (pw_ltD pw_K4) (pw_shD pw_K4 _) rfl (ct_X2_allWords l C.2.2.2.2.2.2.2.2 pw_K4 hc80) ⟨va_cnB 0 C.2.2.2.2.1 gX5_piece_X2_allWords_n200 rfl rfl rfl nm20 k17 (by decide +kernel) ⟨Nat.le_of_ble_eq_true rfl, Nat.le_of_ble_eq_true rfl⟩, k22, k23⟩ rfl rfl (Nat.le_of_ble_eq_true rfl) dX5_piece_80 ?_
                refine pw_icmp_ne (tgt := 92) C dX5_piece_83 (by decide) (fun c83 => ?_) (fun c83 => ?_)
                · have h := fn_pos c83 h
                  refine pw_sub [0, 1, 2, 3, 4] rfl ?_
                  exact hk92 _ _ _ h
                · have h := fn_neg c83 h
                  refine pw_iload C dX5_piece_86 5 rfl ?_
                  refine pw_istore_n (lv' := [(2, .int r50), (0, .ref (gad G 0)), (1, .int a1), (3, .int v3), (4, .int v4), (5, .int r50)]) C dX5_piece_88 rfl (by decide) rfl ?_
                  refine pw_iload C dX5_piece_89 4 rfl ?_
                  refine pw_istore_n (lv' := [(3, .int v4), (2, .int r50), (0, .ref (gad G 0)), (1, .int a1), (4, .int v4), (5, .int r50)]) C dX5_piece_91 rfl (by decide) rfl ?_
                  refine pw_sub [2, 3, 1, 0, 4] rfl ?_
                  exact hk92 _ _ _ h
              · refine pw_icmp_eq (tgt := 67) C dX5_piece_58 (by decide) (fun c58 => ?_) (fun c58 => ?_)
                · have h := fn_pos c58 h
                  refine pw_sub [1, 2, 3, 4, 5, 0] rfl ?_
                  exact hk67 _ h
                · have h := fn_neg c58 h
                  refine pw_iload C dX5_piece_61 0 rfl ?_
                  refine pw_iload_n C dX5_piece_63 rfl 3 rfl ?_
                  refine pw_icmp_ge (tgt := 92) C dX5_piece_64 (by decide) (fun c64 => ?_) (fun c64 => ?_)
                  · have h := fn_pos c64 h
                    refine pw_sub [1, 2, 3, 4, 5] rfl ?_
                    exact hk92 _ _ _ h
                  · have h := fn_neg c64 h
                    refine pw_sub [1, 2, 3, 4, 5, 0] rfl ?_
                    exact hk67 _ h
      refine pw_sub [3, 4, 2, 1, 0] rfl ?_
      refine L34 _ (fun y34_2 y34_3 m98 h => ?_) _ _ _ _ _ h
      refine pw_iload_n C dX5_piece_98 rfl 0 rfl ?_
      refine pw_if_ne (tgt := 106) C dX5_piece_99 (by decide) (fun c99 => ?_) (fun c99 => ?_)
      · have h := fn_pos c99 h
        refine pw_iload_n C dX5_piece_106 rfl 2 rfl ?_
        exact pw_iret C h dX5_piece_107
      · have h := fn_neg c99 h
        refine pw_iload_n C dX5_piece_102 rfl 1 rfl ?_
        refine pw_goto (tgt := 107) C dX5_piece_103 (by decide) ?_
        exact pw_iret C h dX5_piece_107
    · have h := fn_neg c19 h
      refine pw_ldc C k3 dX5_piece_22 ?_
      exact pw_iret C h dX5_piece_24
  · have h := fn_neg c7 h
    refine pw_ldc C k2 dX5_piece_10 ?_
    exact pw_iret C h dX5_piece_12
set_option maxHeartbeats 4000000 in
set_option maxRecDepth 100000 in
theorem ct_X5_foretellSayings (l : Launch) {G : pw_G} (hG : pw_Ok G) {a1 : Int32}  {μ μ' : pw_Mem} (h : fn_X5_foretellSayings a1 μ = some μ') : Met l yX5_foretellSayings wsX5_foretellSayings ({ frames := 6, cells := 0, slots := 0, locals := 134 }) (va_Pc [.ref (gad G 0), .int a1] (pw_Pre G μ)) (va_Qv (fun (u : pw_Mem) => u = μ') (pw_B G) (gA G)) 0 0 (gA G) := by
  refine pw_met (lv := [(0, .ref (gad G 0)), (1, .int a1)]) (own := RX5) (cc := cX5_foretellSayings) (maxL := 4) (ret := none) hG rfl (by decide) rfl rfl (Nat.le_of_ble_eq_true rfl) ?_
  intro p e s m below meth c C
  have iX2 : ∀ w ∈ u_ws RX2 TX2 12, w ∈ wsX5_foretellSayings := fun _ h => List.mem_cons_of_mem _ (List.mem_append_right _ (h))
  have iX5 : ∀ w ∈ u_ws RX5 TX5 10, w ∈ wsX5_foretellSayings := fun _ h => List.mem_cons_of_mem _ (List.mem_append_left _ (List.mem_append_right _ (h)))
  have k1 := C.2.2.2.2.1 (.fieldLink RX5 29 "PulpitRoads" "foretold" "LPulpitRoads$Road;") (List.mem_cons_of_mem _ (List.mem_append_left _ (List.mem_append_left _ (List.mem_append_left _ (List.mem_of_getElem? (i := 0) rfl)))))
  have k10 := C.2.2.2.2.1 (.initialized RX2) (List.mem_cons_of_mem _ (List.mem_append_left _ (List.mem_append_left _ (List.mem_append_left _ (List.mem_of_getElem? (i := 9) rfl)))))
  have k2 := C.2.2.2.2.1 (.fieldLink RX5 32 "PulpitRoads" "saidAhead" "[I") (List.mem_cons_of_mem _ (List.mem_append_left _ (List.mem_append_left _ (List.mem_append_left _ (List.mem_of_getElem? (i := 1) rfl)))))
  have k28 := C.2.2.2.2.1 (.instanceMethod yX2_goHour) (List.mem_cons_of_mem _ (List.mem_append_left _ (List.mem_append_left _ (List.mem_append_right _ (List.mem_append_left _ (List.mem_of_getElem? (i := 3) rfl))))))
  have k29 := C.2.2.2.2.1 (.selects RX2 yX2_goHour yX2_goHour) (List.mem_cons_of_mem _ (List.mem_append_left _ (List.mem_append_left _ (List.mem_append_right _ (List.mem_append_left _ (List.mem_of_getElem? (i := 4) rfl))))))
  have nm13 : va_Nw (.methodLinkNest RX5 138 yX2_goHour "PulpitRoads") s := C.2.2.2.2.2.2.2.1.2.1.2 ("PulpitRoads", 138, ⟨"PulpitRoads$Road", "goHour", "()V"⟩, "PulpitRoads") (List.mem_of_getElem? (i := 13) rfl)
  unfold fn_X5_foretellSayings at h
  refine pw_aload_n C dX5_foretellSayings_0 rfl 0 rfl ?_
  refine pw_iconst (v := (0 : Int32)) C dX5_foretellSayings_1 (by decide) ?_
  obtain ⟨m2, hc2, h⟩ := fn_bv_s h
  refine pw_callVv (rest := []) C (by decide) (pw_sh_0 _) rfl (ct_X5_foretell l C.2.2.2.2.2.2.2.2 hc2) (cwV 1 C.2.2.2.2.1 gX5_foretellSayings_X5_foretell rfl rfl rfl (by decide +kernel) ⟨Nat.le_of_ble_eq_true rfl, Nat.le_of_ble_eq_true rfl⟩) rfl rfl (Nat.le_of_ble_eq_true rfl) dX5_foretellSayings_2 ?_
  refine pw_iconst (v := (0 : Int32)) C dX5_foretellSayings_5 (by decide) ?_
  refine pw_istore_n (lv' := [(2, .int (0 : Int32)), (0, .ref (gad G 0)), (1, .int a1)]) C dX5_foretellSayings_6 rfl (by decide) rfl ?_
  have L7 : ∀ (k : pw_Mem → Option (pw_Mem)) (hk : ∀  (m1 : pw_Mem), k m1 = some μ' → pw_Go p l e ({ frames := 6, cells := 0, slots := 0, locals := 134 }) s m (([.ref (gad G 0), .int a1] : List Value).toArray) below meth c (MQ below (va_Qv (fun (u : pw_Mem) => u = μ') (pw_B G) (gA G)) (([.ref (gad G 0), .int a1] : List Value).toArray) s 0 0 (gA G)) G 4 64 [] [] m1) (n : Nat) (v2 : Int32) (m1 : pw_Mem), fl_X5_foretellSayings_7 k a1 n v2 m1 = some μ' → pw_Go p l e ({ frames := 6, cells := 0, slots := 0, locals := 134 }) s m (([.ref (gad G 0), .int a1] : List Value).toArray) below meth c (MQ below (va_Qv (fun (u : pw_Mem) => u = μ') (pw_B G) (gA G)) (([.ref (gad G 0), .int a1] : List Value).toArray) s 0 0 (gA G)) G 4 7 [(0, .ref (gad G 0)), (1, .int a1), (2, .int v2)] [] m1 := by
    intro k hk n
    induction n with
    | zero => intro v2 m1 h; exact nomatch (show (none : Option (pw_Mem)) = some _ from h)
    | succ n ih =>
      intro v2 m1 h
      rw [fl_X5_foretellSayings_7] at h
      refine pw_iload_n C dX5_foretellSayings_7 rfl 2 rfl ?_
      refine pw_iload_n C dX5_foretellSayings_8 rfl 1 rfl ?_
      refine pw_icmp_ge (tgt := 64) C dX5_foretellSayings_9 (by decide) (fun c9 => ?_) (fun c9 => ?_)
      · have h := fn_pos c9 h
        refine pw_sub [] rfl ?_
        exact hk _ h
      · have h := fn_neg c9 h
        refine pw_aload_n C dX5_foretellSayings_12 rfl 0 rfl ?_
        refine pw_get (v := .ref (gad G 11)) C iX5 (by decide) (pw_sh_0 _) rfl 3 (by decide) k1 rfl dX5_foretellSayings_13 ?_
        obtain ⟨m16, hc16, h⟩ := fn_bv_s h
        refine pw_callVNv (rest := []) C (pw_ltD pw_K11) (pw_shD pw_K11 _) rfl (ct_X2_goHour l C.2.2.2.2.2.2.2.2 pw_K11 hc16) ⟨va_cnB 0 C.2.2.2.2.1 gX5_foretellSayings_X2_goHour_n138 rfl rfl rfl nm13 k10 (by decide +kernel) ⟨Nat.le_of_ble_eq_true rfl, Nat.le_of_ble_eq_true rfl⟩, k28, k29⟩ rfl rfl (Nat.le_of_ble_eq_true rfl) dX5_foretellSayings_16 ?_
        refine pw_iconst (v := (0 : Int32)) C dX5_foretellSayings_19 (by decide) ?_
        refine pw_istore_n (lv' := [(3, .int (0 : Int32)), (0, .ref (gad G 0)), (1, .int a1), (2, .int v2)]) C dX5_foretellSayings_20 rfl (by decide) rfl ?_
        have L21 : ∀ (k : pw_Mem → Option (pw_Mem)) (hk : ∀  (m1 : pw_Mem), k m1 = some μ' → pw_Go p l e ({ frames := 6, cells := 0, slots := 0, locals := 134 }) s m (([.ref (gad G 0), .int a1] : List Value).toArray) below meth c (MQ below (va_Qv (fun (u : pw_Mem) => u = μ') (pw_B G) (gA G)) (([.ref (gad G 0), .int a1] : List Value).toArray) s 0 0 (gA G)) G 4 58 [(0, .ref (gad G 0)), (1, .int a1), (2, .int v2)] [] m1) (n : Nat) (v3 : Int32) (m1 : pw_Mem), fl_X5_foretellSayings_21 k a1 v2 n v3 m1 = some μ' → pw_Go p l e ({ frames := 6, cells := 0, slots := 0, locals := 134 }) s m (([.ref (gad G 0), .int a1] : List Value).toArray) below meth c (MQ below (va_Qv (fun (u : pw_Mem) => u = μ') (pw_B G) (gA G)) (([.ref (gad G 0), .int a1] : List Value).toArray) s 0 0 (gA G)) G 4 21 [(0, .ref (gad G 0)), (1, .int a1), (2, .int v2), (3, .int v3)] [] m1 := by
          intro k hk n
          induction n with
          | zero => intro v3 m1 h; exact nomatch (show (none : Option (pw_Mem)) = some _ from h)
          | succ n ih =>
            intro v3 m1 h
            rw [fl_X5_foretellSayings_21] at h
            refine pw_iload_n C dX5_foretellSayings_21 rfl 3 rfl ?_
            refine pw_aload_n C dX5_foretellSayings_22 rfl 0 rfl ?_
            refine pw_get (v := .ref (gad G 11)) C iX5 (by decide) (pw_sh_0 _) rfl 3 (by decide) k1 rfl dX5_foretellSayings_23 ?_
            refine pw_getN (v := .int (m1 11 4)) C iX2 (pw_ltD pw_K11) (pw_shD pw_K11 _) rfl 4 (by decide) 11 rfl rfl dX5_foretellSayings_26 ?_
            refine pw_icmp_ge (tgt := 58) C dX5_foretellSayings_29 (by decide) (fun c29 => ?_) (fun c29 => ?_)
            · have h := fn_pos c29 h
              refine pw_sub [0, 1, 2] rfl ?_
              exact hk _ h
            · have h := fn_neg c29 h
              refine pw_aload_n C dX5_foretellSayings_32 rfl 0 rfl ?_
              refine pw_get (v := .ref (gad G 18)) C iX5 (by decide) (pw_sh_0 _) rfl 4 (by decide) k2 rfl dX5_foretellSayings_33 ?_
              refine pw_iload_n C dX5_foretellSayings_36 rfl 2 rfl ?_
              refine pw_bipush (v := (9 : Int32)) C dX5_foretellSayings_37 (by decide) ?_
              refine pw_imul C dX5_foretellSayings_39 ?_
              refine pw_iload_n C dX5_foretellSayings_40 rfl 3 rfl ?_
              refine pw_iadd C dX5_foretellSayings_41 ?_
              refine pw_aload_n C dX5_foretellSayings_42 rfl 0 rfl ?_
              refine pw_get (v := .ref (gad G 11)) C iX5 (by decide) (pw_sh_0 _) rfl 3 (by decide) k1 rfl dX5_foretellSayings_43 ?_
              refine pw_getN (v := .ref (gad G (11 + 6))) C iX2 (pw_ltD pw_K11) (pw_shD pw_K11 _) rfl 11 (by decide) 29 rfl rfl dX5_foretellSayings_46 ?_
              refine pw_iload_n C dX5_foretellSayings_49 rfl 3 rfl ?_
              obtain ⟨hi50, h⟩ := fn_ix_s h
              refine pw_iald C (pw_ltD6 pw_K11 6 (by decide)) ((pw_shD6 pw_K11) _) hi50 dX5_foretellSayings_50 ?_
              obtain ⟨hi51, h⟩ := fn_ix_s h
              refine pw_iast C (by decide) pw_sh_18 hi51 dX5_foretellSayings_51 ?_
              refine pw_iinc (v := (v3 + 1)) (lv' := [(3, .int (v3 + 1)), (0, .ref (gad G 0)), (1, .int a1), (2, .int v2)]) C dX5_foretellSayings_52 (q := 3) rfl rfl (by decide) rfl ?_
              refine pw_goto (tgt := 21) C dX5_foretellSayings_55 (by decide) ?_
              refine pw_sub [1, 2, 3, 0] rfl ?_
              exact ih _ _ h
        refine pw_sub [1, 2, 3, 0] rfl ?_
        refine L21 _ (fun m58 h => ?_) _ _ _ h
        refine pw_iinc (v := (v2 + 1)) (lv' := [(2, .int (v2 + 1)), (0, .ref (gad G 0)), (1, .int a1)]) C dX5_foretellSayings_58 (q := 2) rfl rfl (by decide) rfl ?_
        refine pw_goto (tgt := 7) C dX5_foretellSayings_61 (by decide) ?_
        refine pw_sub [1, 2, 0] rfl ?_
        exact ih _ _ h
  refine pw_sub [1, 2, 0] rfl ?_
  refine L7 _ (fun m64 h => ?_) _ _ _ h
  exact pw_vret C h dX5_foretellSayings_64
set_option maxHeartbeats 4000000 in
set_option maxRecDepth 100000 in
theorem ct_X5_heardOnWay (l : Launch) {G : pw_G} (hG : pw_Ok G) {a1 : Int32} {a2 : Int32} {a3 : Int32}  {μ μ' : pw_Mem} {r : Int32} (h : fn_X5_heardOnWay a1 a2 a3 μ = some (r, μ')) : Met l yX5_heardOnWay wsX5_heardOnWay ({ frames := 1, cells := 0, slots := 0, locals := 21 }) (va_Pc [.ref (gad G 0), .int a1, .int a2, .int a3] (pw_Pre G μ)) (va_Qi (fun (r1 : Int32) (u : pw_Mem) => r1 = r ∧ u = μ') (pw_B G) (gA G)) 0 0 (gA G) := by
  refine pw_met (lv := [(0, .ref (gad G 0)), (1, .int a1), (2, .int a2), (3, .int a3)]) (own := RX5) (cc := cX5_heardOnWay) (maxL := 7) (ret := some .int) hG rfl (by decide) rfl rfl (Nat.le_of_ble_eq_true rfl) ?_
  intro p e s m below meth c C
  have iX5 : ∀ w ∈ u_ws RX5 TX5 10, w ∈ wsX5_heardOnWay := fun _ h => List.mem_cons_of_mem _ (List.mem_append_left _ (List.mem_append_right _ (h)))
  have k1 := C.2.2.2.2.1 (.fieldLink RX5 29 "PulpitRoads" "foretold" "LPulpitRoads$Road;") (List.mem_cons_of_mem _ (List.mem_append_left _ (List.mem_append_left _ (List.mem_of_getElem? (i := 0) rfl))))
  have k2 := C.2.2.2.2.1 (.fieldLink RX5 32 "PulpitRoads" "saidAhead" "[I") (List.mem_cons_of_mem _ (List.mem_append_left _ (List.mem_append_left _ (List.mem_of_getElem? (i := 1) rfl))))
  have k3 := C.2.2.2.2.1 (.instanceMethod yX2_nextOf) (List.mem_cons_of_mem _ (List.mem_append_left _ (List.mem_append_left _ (List.mem_of_getElem? (i := 2) rfl))))
  have k4 := C.2.2.2.2.1 (.initialized RX2) (List.mem_cons_of_mem _ (List.mem_append_left _ (List.mem_append_left _ (List.mem_of_getElem? (i := 3) rfl))))
  have k5 := C.2.2.2.2.1 (.selects RX2 yX2_nextOf yX2_nextOf) (List.mem_cons_of_mem _ (List.mem_append_left _ (List.mem_append_left _ (List.mem_of_getElem? (i := 4) rfl))))
  have nm23 : va_Nw (.methodLinkNest RX5 280 yX2_nextOf "PulpitRoads") s := C.2.2.2.2.2.2.2.1.2.1.2 ("PulpitRoads", 280, ⟨"PulpitRoads$Road", "nextOf", "(I)I"⟩, "PulpitRoads") (List.mem_of_getElem? (i := 23) rfl)
  unfold fn_X5_heardOnWay at h
  refine pw_iload_n C dX5_heardOnWay_0 rfl 1 rfl ?_
  refine pw_istore (lv' := [(4, .int a1), (0, .ref (gad G 0)), (1, .int a1), (2, .int a2), (3, .int a3)]) C dX5_heardOnWay_1 (by decide) rfl ?_
  refine pw_iconst (v := (0 : Int32)) C dX5_heardOnWay_3 (by decide) ?_
  refine pw_istore (lv' := [(5, .int (0 : Int32)), (4, .int a1), (0, .ref (gad G 0)), (1, .int a1), (2, .int a2), (3, .int a3)]) C dX5_heardOnWay_4 (by decide) rfl ?_
  refine pw_iconst (v := (0 : Int32)) C dX5_heardOnWay_6 (by decide) ?_
  refine pw_istore (lv' := [(6, .int (0 : Int32)), (5, .int (0 : Int32)), (4, .int a1), (0, .ref (gad G 0)), (1, .int a1), (2, .int a2), (3, .int a3)]) C dX5_heardOnWay_7 (by decide) rfl ?_
  have L9 : ∀ (k : Int32 → pw_Mem → Option (Int32 × pw_Mem)) (hk : ∀ (v5 : Int32) (m1 : pw_Mem), k v5 m1 = some (r, μ') → pw_Go p l e ({ frames := 1, cells := 0, slots := 0, locals := 21 }) s m (([.ref (gad G 0), .int a1, .int a2, .int a3] : List Value).toArray) below meth c (MQ below (va_Qi (fun (r1 : Int32) (u : pw_Mem) => r1 = r ∧ u = μ') (pw_B G) (gA G)) (([.ref (gad G 0), .int a1, .int a2, .int a3] : List Value).toArray) s 0 0 (gA G)) G 7 59 [(5, .int v5)] [] m1) (n : Nat) (v4 : Int32) (v5 : Int32) (v6 : Int32) (m1 : pw_Mem), fl_X5_heardOnWay_9 k a2 a3 n v4 v5 v6 m1 = some (r, μ') → pw_Go p l e ({ frames := 1, cells := 0, slots := 0, locals := 21 }) s m (([.ref (gad G 0), .int a1, .int a2, .int a3] : List Value).toArray) below meth c (MQ below (va_Qi (fun (r1 : Int32) (u : pw_Mem) => r1 = r ∧ u = μ') (pw_B G) (gA G)) (([.ref (gad G 0), .int a1, .int a2, .int a3] : List Value).toArray) s 0 0 (gA G)) G 7 9 [(0, .ref (gad G 0)), (2, .int a2), (3, .int a3), (4, .int v4), (5, .int v5), (6, .int v6)] [] m1 := by
    intro k hk n
    induction n with
    | zero => intro v4 v5 v6 m1 h; exact nomatch (show (none : Option (Int32 × pw_Mem)) = some _ from h)
    | succ n ih =>
      intro v4 v5 v6 m1 h
      rw [fl_X5_heardOnWay_9] at h
      refine pw_iload C dX5_heardOnWay_9 5 rfl ?_
      refine pw_iload_n C dX5_heardOnWay_11 rfl 1 rfl ?_
      refine pw_icmp_ge (tgt := 59) C dX5_heardOnWay_12 (by decide) (fun c12 => ?_) (fun c12 => ?_)
      · have h := fn_pos c12 h
        refine pw_sub [4] rfl ?_
        exact hk _ _ h
      · have h := fn_neg c12 h
        refine pw_iload_n C dX5_heardOnWay_15 rfl 2 rfl ?_
        refine pw_iload C dX5_heardOnWay_16 5 rfl ?_
        refine pw_ishr C dX5_heardOnWay_18 ?_
        refine pw_iconst (v := (1 : Int32)) C dX5_heardOnWay_19 (by decide) ?_
        refine pw_iand C dX5_heardOnWay_20 ?_
        refine fn_jn1_s (fun x35_0 m35 => pw_Go p l e ({ frames := 1, cells := 0, slots := 0, locals := 21 }) s m (([.ref (gad G 0), .int a1, .int a2, .int a3] : List Value).toArray) below meth c (MQ below (va_Qi (fun (r1 : Int32) (u : pw_Mem) => r1 = r ∧ u = μ') (pw_B G) (gA G)) (([.ref (gad G 0), .int a1, .int a2, .int a3] : List Value).toArray) s 0 0 (gA G)) G 7 35 [(0, .ref (gad G 0)), (2, .int a2), (3, .int a3), (4, .int x35_0), (5, .int v5), (6, .int v6)] [] m35) h (fun x35_0 m35 h => ?_) (fun k35 hk35 h => ?_)
        · refine pw_iload C dX5_heardOnWay_35 4 rfl ?_
          refine pw_aload_n C dX5_heardOnWay_37 rfl 0 rfl ?_
          refine pw_get (v := .ref (gad G 18)) C iX5 (by decide) (pw_sh_0 _) rfl 4 (by decide) k2 rfl dX5_heardOnWay_38 ?_
          refine pw_iload C dX5_heardOnWay_41 5 rfl ?_
          refine pw_bipush (v := (9 : Int32)) C dX5_heardOnWay_43 (by decide) ?_
          refine pw_imul C dX5_heardOnWay_45 ?_
          refine pw_iload C dX5_heardOnWay_46 3 rfl ?_
          refine pw_iadd C dX5_heardOnWay_48 ?_
          obtain ⟨hi49, h⟩ := fn_ix_s h
          refine pw_iald C (by decide) (pw_sh_18 _) hi49 dX5_heardOnWay_49 ?_
          refine pw_ior C dX5_heardOnWay_50 ?_
          refine pw_istore (lv' := [(5, .int (v5 ||| (m35 18 (((v6 * (9 : Int32)) + x35_0)).toNatClampNeg))), (0, .ref (gad G 0)), (2, .int a2), (3, .int a3), (4, .int x35_0), (6, .int v6)]) C dX5_heardOnWay_51 (by decide) rfl ?_
          refine pw_iinc (v := (v6 + 1)) (lv' := [(6, .int (v6 + 1)), (5, .int (v5 ||| (m35 18 (((v6 * (9 : Int32)) + x35_0)).toNatClampNeg))), (0, .ref (gad G 0)), (2, .int a2), (3, .int a3), (4, .int x35_0)]) C dX5_heardOnWay_53 (q := 5) rfl rfl (by decide) rfl ?_
          refine pw_goto (tgt := 9) C dX5_heardOnWay_56 (by decide) ?_
          refine pw_sub [2, 3, 4, 5, 1, 0] rfl ?_
          exact ih _ _ _ _ h
        · refine pw_if_eq (tgt := 35) C dX5_heardOnWay_21 (by decide) (fun c21 => ?_) (fun c21 => ?_)
          · have h := fn_pos c21 h
            exact hk35 _ _ h
          · have h := fn_neg c21 h
            refine pw_aload_n C dX5_heardOnWay_24 rfl 0 rfl ?_
            refine pw_get (v := .ref (gad G 11)) C iX5 (by decide) (pw_sh_0 _) rfl 3 (by decide) k1 rfl dX5_heardOnWay_25 ?_
            refine pw_iload C dX5_heardOnWay_28 3 rfl ?_
            obtain ⟨r30, m30, hc30, h⟩ := fn_bi_s h
            refine pw_callVNi (rest := []) C (pw_ltD pw_K11) (pw_shD pw_K11 _) rfl (ct_X2_nextOf l C.2.2.2.2.2.2.2.2 pw_K11 hc30) ⟨va_cnB 1 C.2.2.2.2.1 gX5_heardOnWay_X2_nextOf_n280 rfl rfl rfl nm23 k4 (by decide +kernel) ⟨Nat.le_of_ble_eq_true rfl, Nat.le_of_ble_eq_true rfl⟩, k3, k5⟩ rfl rfl (Nat.le_of_ble_eq_true rfl) dX5_heardOnWay_30 ?_
            refine pw_istore (lv' := [(4, .int r30), (0, .ref (gad G 0)), (2, .int a2), (3, .int a3), (5, .int v5), (6, .int v6)]) C dX5_heardOnWay_33 (by decide) rfl ?_
            refine pw_sub [1, 2, 3, 0, 4, 5] rfl ?_
            exact hk35 _ _ h
  refine pw_sub [3, 5, 6, 2, 1, 0] rfl ?_
  refine L9 _ (fun y9_5 m59 h => ?_) _ _ _ _ _ h
  refine pw_iload C dX5_heardOnWay_59 0 rfl ?_
  exact pw_iret C h dX5_heardOnWay_61
set_option maxHeartbeats 4000000 in
set_option maxRecDepth 100000 in
theorem ct_X5_walk (l : Launch) {G : pw_G} (hG : pw_Ok G) {a1 : Int32} {a2 : Int32} {a3 : Int32}  {μ μ' : pw_Mem} {r : Int32} (h : fn_X5_walk a1 a2 a3 μ = some (r, μ')) : Met l yX5_walk wsX5_walk ({ frames := 7, cells := 0, slots := 0, locals := 157 }) (va_Pc [.ref (gad G 0), .int a1, .int a2, .int a3] (pw_Pre G μ)) (va_Qi (fun (r1 : Int32) (u : pw_Mem) => r1 = r ∧ u = μ') (pw_B G) (gA G)) 0 0 (gA G) := by
  refine pw_met (lv := [(0, .ref (gad G 0)), (1, .int a1), (2, .int a2), (3, .int a3)]) (own := RX5) (cc := cX5_walk) (maxL := 8) (ret := some .int) hG rfl (by decide) rfl rfl (Nat.le_of_ble_eq_true rfl) ?_
  intro p e s m below meth c C
  have k1 := C.2.2.2.2.1 (.constant RX5 59 (-1000001)) (List.mem_cons_of_mem _ (List.mem_append_left _ (List.mem_append_left _ (List.mem_append_left _ (List.mem_of_getElem? (i := 0) rfl)))))
  unfold fn_X5_walk at h
  refine pw_aload_n C dX5_walk_0 rfl 0 rfl ?_
  refine pw_iload_n C dX5_walk_1 rfl 1 rfl ?_
  obtain ⟨r2, m2, hc2, h⟩ := fn_bi_s h
  refine pw_callVi (rest := []) C (by decide) (pw_sh_0 _) rfl (ct_X5_isStretch l C.2.2.2.2.2.2.2.2 hc2) (cwV 1 C.2.2.2.2.1 gX5_walk_X5_isStretch rfl rfl rfl (by decide +kernel) ⟨Nat.le_of_ble_eq_true rfl, Nat.le_of_ble_eq_true rfl⟩) rfl rfl (Nat.le_of_ble_eq_true rfl) dX5_walk_2 ?_
  refine pw_if_eq (tgt := 27) C dX5_walk_5 (by decide) (fun c5 => ?_) (fun c5 => ?_)
  · have h := fn_pos c5 h
    refine pw_ldc C k1 dX5_walk_27 ?_
    exact pw_iret C h dX5_walk_29
  · have h := fn_neg c5 h
    refine pw_iload_n C dX5_walk_8 rfl 2 rfl ?_
    refine pw_iconst (v := (1 : Int32)) C dX5_walk_9 (by decide) ?_
    refine pw_bipush (v := (8 : Int32)) C dX5_walk_10 (by decide) ?_
    obtain ⟨r12, m12, hc12, h⟩ := fn_bi_s h
    refine pw_callSi (rest := []) C (ct_X5_isWithin l C.2.2.2.2.2.2.2.2 hc12) (va_cwS 3 C.2.2.2.2.1 gX5_walk_X5_isWithin rfl rfl rfl (by decide +kernel) ⟨Nat.le_of_ble_eq_true rfl, Nat.le_of_ble_eq_true rfl⟩) rfl rfl (Nat.le_of_ble_eq_true rfl) dX5_walk_12 ?_
    refine pw_if_eq (tgt := 27) C dX5_walk_15 (by decide) (fun c15 => ?_) (fun c15 => ?_)
    · have h := fn_pos c15 h
      refine pw_ldc C k1 dX5_walk_27 ?_
      exact pw_iret C h dX5_walk_29
    · have h := fn_neg c15 h
      refine pw_iload_n C dX5_walk_18 rfl 3 rfl ?_
      refine pw_iconst (v := (0 : Int32)) C dX5_walk_19 (by decide) ?_
      refine pw_iconst (v := (1 : Int32)) C dX5_walk_20 (by decide) ?_
      obtain ⟨r21, m21, hc21, h⟩ := fn_bi_s h
      refine pw_callSi (rest := []) C (ct_X5_isWithin l C.2.2.2.2.2.2.2.2 hc21) (va_cwS 3 C.2.2.2.2.1 gX5_walk_X5_isWithin rfl rfl rfl (by decide +kernel) ⟨Nat.le_of_ble_eq_true rfl, Nat.le_of_ble_eq_true rfl⟩) rfl rfl (Nat.le_of_ble_eq_true rfl) dX5_walk_21 ?_
      refine pw_if_ne (tgt := 30) C dX5_walk_24 (by decide) (fun c24 => ?_) (fun c24 => ?_)
      · have h := fn_pos c24 h
        refine pw_aload_n C dX5_walk_30 rfl 0 rfl ?_
        refine pw_iload_n C dX5_walk_31 rfl 2 rfl ?_
        obtain ⟨m32, hc32, h⟩ := fn_bv_s h
        refine pw_callVv (rest := []) C (by decide) (pw_sh_0 _) rfl (ct_X5_foretellSayings l C.2.2.2.2.2.2.2.2 hc32) (cwV 1 C.2.2.2.2.1 gX5_walk_X5_foretellSayings rfl rfl rfl (by decide +kernel) ⟨Nat.le_of_ble_eq_true rfl, Nat.le_of_ble_eq_true rfl⟩) rfl rfl (Nat.le_of_ble_eq_true rfl) dX5_walk_32 ?_
        refine pw_iconst (v := (-1 : Int32)) C dX5_walk_35 (by decide) ?_
        refine pw_istore (lv' := [(4, .int (-1 : Int32)), (0, .ref (gad G 0)), (1, .int a1), (2, .int a2), (3, .int a3)]) C dX5_walk_36 (by decide) rfl ?_
        refine pw_iconst (v := (0 : Int32)) C dX5_walk_38 (by decide) ?_
        refine pw_istore (lv' := [(5, .int (0 : Int32)), (4, .int (-1 : Int32)), (0, .ref (gad G 0)), (1, .int a1), (2, .int a2), (3, .int a3)]) C dX5_walk_39 (by decide) rfl ?_
        refine pw_iconst (v := (0 : Int32)) C dX5_walk_41 (by decide) ?_
        refine pw_istore (lv' := [(6, .int (0 : Int32)), (5, .int (0 : Int32)), (4, .int (-1 : Int32)), (0, .ref (gad G 0)), (1, .int a1), (2, .int a2), (3, .int a3)]) C dX5_walk_42 (by decide) rfl ?_
        have L44 : ∀ (k : Int32 → Int32 → pw_Mem → Option (Int32 × pw_Mem)) (hk : ∀ (v4 : Int32) (v5 : Int32) (m1 : pw_Mem), k v4 v5 m1 = some (r, μ') → pw_Go p l e ({ frames := 7, cells := 0, slots := 0, locals := 157 }) s m (([.ref (gad G 0), .int a1, .int a2, .int a3] : List Value).toArray) below meth c (MQ below (va_Qi (fun (r1 : Int32) (u : pw_Mem) => r1 = r ∧ u = μ') (pw_B G) (gA G)) (([.ref (gad G 0), .int a1, .int a2, .int a3] : List Value).toArray) s 0 0 (gA G)) G 8 86 [(3, .int a3), (4, .int v4), (5, .int v5)] [] m1) (n : Nat) (v4 : Int32) (v5 : Int32) (v6 : Int32) (m1 : pw_Mem), fl_X5_walk_44 k a1 a2 a3 n v4 v5 v6 m1 = some (r, μ') → pw_Go p l e ({ frames := 7, cells := 0, slots := 0, locals := 157 }) s m (([.ref (gad G 0), .int a1, .int a2, .int a3] : List Value).toArray) below meth c (MQ below (va_Qi (fun (r1 : Int32) (u : pw_Mem) => r1 = r ∧ u = μ') (pw_B G) (gA G)) (([.ref (gad G 0), .int a1, .int a2, .int a3] : List Value).toArray) s 0 0 (gA G)) G 8 44 [(0, .ref (gad G 0)), (1, .int a1), (2, .int a2), (3, .int a3), (4, .int v4), (5, .int v5), (6, .int v6)] [] m1 := by
          intro k hk n
          induction n with
          | zero => intro v4 v5 v6 m1 h; exact nomatch (show (none : Option (Int32 × pw_Mem)) = some _ from h)
          | succ n ih =>
            intro v4 v5 v6 m1 h
            rw [fl_X5_walk_44] at h
            refine pw_iload C dX5_walk_44 6 rfl ?_
            refine pw_iconst (v := (1 : Int32)) C dX5_walk_46 (by decide) ?_
            refine pw_iload_n C dX5_walk_47 rfl 2 rfl ?_
            refine pw_ishl C dX5_walk_48 ?_
            refine pw_icmp_ge (tgt := 86) C dX5_walk_49 (by decide) (fun c49 => ?_) (fun c49 => ?_)
            · have h := fn_pos c49 h
              refine pw_sub [3, 4, 5] rfl ?_
              exact hk _ _ _ h
            · have h := fn_neg c49 h
              refine pw_aload_n C dX5_walk_52 rfl 0 rfl ?_
              refine pw_iload_n C dX5_walk_53 rfl 1 rfl ?_
              refine pw_iload_n C dX5_walk_54 rfl 2 rfl ?_
              refine pw_iload C dX5_walk_55 6 rfl ?_
              obtain ⟨r57, m57, hc57, h⟩ := fn_bi_s h
              refine pw_callVi (rest := []) C (by decide) (pw_sh_0 _) rfl (ct_X5_heardOnWay l C.2.2.2.2.2.2.2.2 hc57) (cwV 3 C.2.2.2.2.1 gX5_walk_X5_heardOnWay rfl rfl rfl (by decide +kernel) ⟨Nat.le_of_ble_eq_true rfl, Nat.le_of_ble_eq_true rfl⟩) rfl rfl (Nat.le_of_ble_eq_true rfl) dX5_walk_57 ?_
              obtain ⟨r60, m60, hc60, h⟩ := fn_bi_s h
              refine pw_callSi (rest := []) C (ct_J6_bitCount_0f7a4 l C.2.2.2.2.2.2.2.2 hc60) (va_cwS 1 C.2.2.2.2.1 gX5_walk_J6_bitCount_0f7a4 rfl rfl rfl (by decide +kernel) ⟨Nat.le_of_ble_eq_true rfl, Nat.le_of_ble_eq_true rfl⟩) rfl rfl (Nat.le_of_ble_eq_true rfl) dX5_walk_60 ?_
              refine pw_istore (lv' := [(7, .int r60), (0, .ref (gad G 0)), (1, .int a1), (2, .int a2), (3, .int a3), (4, .int v4), (5, .int v5), (6, .int v6)]) C dX5_walk_63 (by decide) rfl ?_
              refine pw_iload C dX5_walk_65 0 rfl ?_
              refine pw_iload C dX5_walk_67 5 rfl ?_
              refine fn_jn2_s (fun x80_0 x80_1 m80 => pw_Go p l e ({ frames := 7, cells := 0, slots := 0, locals := 157 }) s m (([.ref (gad G 0), .int a1, .int a2, .int a3] : List Value).toArray) below meth c (MQ below (va_Qi (fun (r1 : Int32) (u : pw_Mem) => r1 = r ∧ u = μ') (pw_B G) (gA G)) (([.ref (gad G 0), .int a1, .int a2, .int a3] : List Value).toArray) s 0 0 (gA G)) G 8 80 [(0, .ref (gad G 0)), (1, .int a1), (2, .int a2), (3, .int a3), (4, .int x80_0), (5, .int x80_1), (6, .int v6)] [] m80) h (fun x80_0 x80_1 m80 h => ?_) (fun k80 hk80 h => ?_)
              · refine pw_iinc (v := (v6 + 1)) (lv' := [(6, .int (v6 + 1)), (0, .ref (gad G 0)), (1, .int a1), (2, .int a2), (3, .int a3), (4, .int x80_0), (5, .int x80_1)]) C dX5_walk_80 (q := 6) rfl rfl (by decide) rfl ?_
                refine pw_goto (tgt := 44) C dX5_walk_83 (by decide) ?_
                refine pw_sub [1, 2, 3, 4, 5, 6, 0] rfl ?_
                exact ih _ _ _ _ h
              · refine pw_icmp_le (tgt := 80) C dX5_walk_69 (by decide) (fun c69 => ?_) (fun c69 => ?_)
                · have h := fn_pos c69 h
                  refine pw_sub [1, 2, 3, 4, 5, 6, 7] rfl ?_
                  exact hk80 _ _ _ h
                · have h := fn_neg c69 h
                  refine pw_iload C dX5_walk_72 0 rfl ?_
                  refine pw_istore (lv' := [(4, .int r60), (7, .int r60), (0, .ref (gad G 0)), (1, .int a1), (2, .int a2), (3, .int a3), (5, .int v5), (6, .int v6)]) C dX5_walk_74 (by decide) rfl ?_
                  refine pw_iload C dX5_walk_76 7 rfl ?_
                  refine pw_istore (lv' := [(5, .int v6), (4, .int r60), (7, .int r60), (0, .ref (gad G 0)), (1, .int a1), (2, .int a2), (3, .int a3), (6, .int v6)]) C dX5_walk_78 (by decide) rfl ?_
                  refine pw_sub [3, 4, 5, 6, 1, 0, 7] rfl ?_
                  exact hk80 _ _ _ h
        refine pw_sub [3, 4, 5, 6, 2, 1, 0] rfl ?_
        refine L44 _ (fun y44_4 y44_5 m86 h => ?_) _ _ _ _ _ h
        refine pw_iload_n C dX5_walk_86 rfl 0 rfl ?_
        refine pw_if_ne (tgt := 95) C dX5_walk_87 (by decide) (fun c87 => ?_) (fun c87 => ?_)
        · have h := fn_pos c87 h
          refine pw_iload C dX5_walk_95 2 rfl ?_
          exact pw_iret C h dX5_walk_97
        · have h := fn_neg c87 h
          refine pw_iload C dX5_walk_90 1 rfl ?_
          refine pw_goto (tgt := 97) C dX5_walk_92 (by decide) ?_
          exact pw_iret C h dX5_walk_97
      · have h := fn_neg c24 h
        refine pw_ldc C k1 dX5_walk_27 ?_
        exact pw_iret C h dX5_walk_29
set_option maxHeartbeats 4000000 in
set_option maxRecDepth 100000 in
theorem ct_X5_goesAsTold (l : Launch) {G : pw_G} (hG : pw_Ok G) {a1 : Int32} {o2 : Nat} {a3 : Int32} {a4 : Int32} (ho2 : pw_KR o2) {μ μ' : pw_Mem} {r : Int32} (h : fn_X5_goesAsTold a1 o2 a3 a4 μ = some (r, μ')) : Met l yX5_goesAsTold wsX5_goesAsTold ({ frames := 4, cells := 0, slots := 0, locals := 91 }) (va_Pc [.ref (gad G 0), .int a1, .ref (gad G o2), .int a3, .int a4] (pw_Pre G μ)) (va_Qi (fun (r1 : Int32) (u : pw_Mem) => r1 = r ∧ u = μ') (pw_B G) (gA G)) 0 0 (gA G) := by
  refine pw_met (lv := [(0, .ref (gad G 0)), (1, .int a1), (2, .ref (gad G o2)), (3, .int a3), (4, .int a4)]) (own := RX5) (cc := cX5_goesAsTold) (maxL := 6) (ret := some .boolean) hG rfl (by decide) rfl rfl (Nat.le_of_ble_eq_true rfl) ?_
  intro p e s m below meth c C
  have iX2 : ∀ w ∈ u_ws RX2 TX2 12, w ∈ wsX5_goesAsTold := fun _ h => List.mem_cons_of_mem _ (List.mem_append_left _ (List.mem_append_right _ (h)))
  have iX3 : ∀ w ∈ u_ws RX3 TX3 4, w ∈ wsX5_goesAsTold := fun _ h => List.mem_cons_of_mem _ (List.mem_append_right _ (h))
  have iX5 : ∀ w ∈ u_ws RX5 TX5 10, w ∈ wsX5_goesAsTold := fun _ h => List.mem_cons_of_mem _ (List.mem_append_left _ (List.mem_append_left _ (List.mem_append_right _ (h))))
  have k1 := C.2.2.2.2.1 (.fieldLink RX5 29 "PulpitRoads" "foretold" "LPulpitRoads$Road;") (List.mem_cons_of_mem _ (List.mem_append_left _ (List.mem_append_left _ (List.mem_append_left _ (List.mem_append_left _ (List.mem_of_getElem? (i := 0) rfl))))))
  have k2 := C.2.2.2.2.1 (.instanceMethod yX2_goHour) (List.mem_cons_of_mem _ (List.mem_append_left _ (List.mem_append_left _ (List.mem_append_left _ (List.mem_append_left _ (List.mem_of_getElem? (i := 1) rfl))))))
  have k3 := C.2.2.2.2.1 (.initialized RX2) (List.mem_cons_of_mem _ (List.mem_append_left _ (List.mem_append_left _ (List.mem_append_left _ (List.mem_append_left _ (List.mem_of_getElem? (i := 2) rfl))))))
  have k4 := C.2.2.2.2.1 (.selects RX2 yX2_goHour yX2_goHour) (List.mem_cons_of_mem _ (List.mem_append_left _ (List.mem_append_left _ (List.mem_append_left _ (List.mem_append_left _ (List.mem_of_getElem? (i := 3) rfl))))))
  have nm13 : va_Nw (.methodLinkNest RX5 138 yX2_goHour "PulpitRoads") s := C.2.2.2.2.2.2.2.1.2.1.2 ("PulpitRoads", 138, ⟨"PulpitRoads$Road", "goHour", "()V"⟩, "PulpitRoads") (List.mem_of_getElem? (i := 13) rfl)
  unfold fn_X5_goesAsTold at h
  refine pw_iconst (v := (0 : Int32)) C dX5_goesAsTold_0 (by decide) ?_
  refine pw_istore (lv' := [(5, .int (0 : Int32)), (0, .ref (gad G 0)), (1, .int a1), (2, .ref (gad G o2)), (3, .int a3), (4, .int a4)]) C dX5_goesAsTold_1 (by decide) rfl ?_
  have L3 : ∀ (k : pw_Mem → Option (Int32 × pw_Mem)) (hk : ∀  (m1 : pw_Mem), k m1 = some (r, μ') → pw_Go p l e ({ frames := 4, cells := 0, slots := 0, locals := 91 }) s m (([.ref (gad G 0), .int a1, .ref (gad G o2), .int a3, .int a4] : List Value).toArray) below meth c (MQ below (va_Qi (fun (r1 : Int32) (u : pw_Mem) => r1 = r ∧ u = μ') (pw_B G) (gA G)) (([.ref (gad G 0), .int a1, .ref (gad G o2), .int a3, .int a4] : List Value).toArray) s 0 0 (gA G)) G 6 46 [] [] m1) (n : Nat) (v5 : Int32) (m1 : pw_Mem), fl_X5_goesAsTold_3 k a1 o2 a3 a4 n v5 m1 = some (r, μ') → pw_Go p l e ({ frames := 4, cells := 0, slots := 0, locals := 91 }) s m (([.ref (gad G 0), .int a1, .ref (gad G o2), .int a3, .int a4] : List Value).toArray) below meth c (MQ below (va_Qi (fun (r1 : Int32) (u : pw_Mem) => r1 = r ∧ u = μ') (pw_B G) (gA G)) (([.ref (gad G 0), .int a1, .ref (gad G o2), .int a3, .int a4] : List Value).toArray) s 0 0 (gA G)) G 6 3 [(0, .ref (gad G 0)), (1, .int a1), (2, .ref (gad G o2)), (3, .int a3), (4, .int a4), (5, .int v5)] [] m1 := by
    intro k hk n
    induction n with
    | zero => intro v5 m1 h; exact nomatch (show (none : Option (Int32 × pw_Mem)) = some _ from h)
    | succ n ih =>
      intro v5 m1 h
      rw [fl_X5_goesAsTold_3] at h
      refine pw_iload C dX5_goesAsTold_3 5 rfl ?_
      refine pw_iload C dX5_goesAsTold_5 4 rfl ?_
      refine pw_icmp_ge (tgt := 46) C dX5_goesAsTold_7 (by decide) (fun c7 => ?_) (fun c7 => ?_)
      · have h := fn_pos c7 h
        refine pw_sub [] rfl ?_
        exact hk _ h
      · have h := fn_neg c7 h
        refine pw_aload_n C dX5_goesAsTold_10 rfl 0 rfl ?_
        refine pw_get (v := .ref (gad G 11)) C iX5 (by decide) (pw_sh_0 _) rfl 3 (by decide) k1 rfl dX5_goesAsTold_11 ?_
        obtain ⟨m14, hc14, h⟩ := fn_bv_s h
        refine pw_callVNv (rest := []) C (pw_ltD pw_K11) (pw_shD pw_K11 _) rfl (ct_X2_goHour l C.2.2.2.2.2.2.2.2 pw_K11 hc14) ⟨va_cnB 0 C.2.2.2.2.1 gX5_goesAsTold_X2_goHour_n138 rfl rfl rfl nm13 k3 (by decide +kernel) ⟨Nat.le_of_ble_eq_true rfl, Nat.le_of_ble_eq_true rfl⟩, k2, k4⟩ rfl rfl (Nat.le_of_ble_eq_true rfl) dX5_goesAsTold_14 ?_
        refine pw_aload_n C dX5_goesAsTold_17 rfl 0 rfl ?_
        refine pw_get (v := .ref (gad G 11)) C iX5 (by decide) (pw_sh_0 _) rfl 3 (by decide) k1 rfl dX5_goesAsTold_18 ?_
        refine pw_getN (v := .ref (gad G (11 + 4))) C iX2 (pw_ltD pw_K11) (pw_shD pw_K11 _) rfl 9 (by decide) 24 rfl rfl dX5_goesAsTold_21 ?_
        refine pw_iload_n C dX5_goesAsTold_24 rfl 1 rfl ?_
        obtain ⟨hi25, h⟩ := fn_ix_s h
        refine pw_iald C (pw_ltD6 pw_K11 4 (by decide)) ((pw_shD4 pw_K11) _) hi25 dX5_goesAsTold_25 ?_
        refine pw_aload_n C dX5_goesAsTold_26 rfl 2 rfl ?_
        refine pw_getN (v := .ref (gad G (o2 + 1))) C iX3 (pw_ltR ho2) (pw_shR ho2 _) rfl 0 (by decide) 33 rfl rfl dX5_goesAsTold_27 ?_
        refine pw_iload_n C dX5_goesAsTold_30 rfl 3 rfl ?_
        refine pw_iload C dX5_goesAsTold_31 5 rfl ?_
        refine pw_iadd C dX5_goesAsTold_33 ?_
        obtain ⟨hi34, h⟩ := fn_ix_s h
        refine pw_iald C (pw_ltR1 ho2) ((pw_shR1 ho2) _) hi34 dX5_goesAsTold_34 ?_
        refine pw_icmp_eq (tgt := 40) C dX5_goesAsTold_35 (by decide) (fun c35 => ?_) (fun c35 => ?_)
        · have h := fn_pos c35 h
          refine pw_iinc (v := (v5 + 1)) (lv' := [(5, .int (v5 + 1)), (0, .ref (gad G 0)), (1, .int a1), (2, .ref (gad G o2)), (3, .int a3), (4, .int a4)]) C dX5_goesAsTold_40 (q := 5) rfl rfl (by decide) rfl ?_
          refine pw_goto (tgt := 3) C dX5_goesAsTold_43 (by decide) ?_
          refine pw_sub [1, 2, 3, 4, 5, 0] rfl ?_
          exact ih _ _ h
        · have h := fn_neg c35 h
          refine pw_iconst (v := (0 : Int32)) C dX5_goesAsTold_38 (by decide) ?_
          obtain ⟨hz39, h⟩ := fn_bz_s h
          exact pw_zret C hz39 h dX5_goesAsTold_39
  refine pw_sub [1, 2, 3, 4, 5, 0] rfl ?_
  refine L3 _ (fun m46 h => ?_) _ _ _ h
  refine pw_iconst (v := (1 : Int32)) C dX5_goesAsTold_46 (by decide) ?_
  obtain ⟨hz47, h⟩ := fn_bz_s h
  exact pw_zret C hz47 h dX5_goesAsTold_47
set_option maxHeartbeats 4000000 in
set_option maxRecDepth 100000 in
theorem ct_X5_guessEnd (l : Launch) {G : pw_G} (hG : pw_Ok G) {a1 : Int32}  {μ μ' : pw_Mem} {r : Int32} (h : fn_X5_guessEnd a1 μ = some (r, μ')) : Met l yX5_guessEnd wsX5_guessEnd ({ frames := 0, cells := 0, slots := 0, locals := 0 }) (va_Pc [.ref (gad G 0), .int a1] (pw_Pre G μ)) (va_Qi (fun (r1 : Int32) (u : pw_Mem) => r1 = r ∧ u = μ') (pw_B G) (gA G)) 0 0 (gA G) := by
  refine pw_met (lv := [(0, .ref (gad G 0)), (1, .int a1)]) (own := RX5) (cc := cX5_guessEnd) (maxL := 2) (ret := some .int) hG rfl (by decide) rfl rfl (Nat.le_of_ble_eq_true rfl) ?_
  intro p e s m below meth c C
  have iX2 : ∀ w ∈ u_ws RX2 TX2 12, w ∈ wsX5_guessEnd := fun _ h => List.mem_cons_of_mem _ (List.mem_append_right _ (h))
  have iX5 : ∀ w ∈ u_ws RX5 TX5 10, w ∈ wsX5_guessEnd := fun _ h => List.mem_cons_of_mem _ (List.mem_append_left _ (List.mem_append_right _ (h)))
  have k1 := C.2.2.2.2.1 (.fieldLink RX5 25 "PulpitRoads" "now" "LPulpitRoads$Road;") (List.mem_cons_of_mem _ (List.mem_append_left _ (List.mem_append_left _ (List.mem_of_getElem? (i := 0) rfl))))
  unfold fn_X5_guessEnd at h
  refine pw_iload_n C dX5_guessEnd_0 rfl 1 rfl ?_
  refine pw_if_ne (tgt := 7) C dX5_guessEnd_1 (by decide) (fun c1 => ?_) (fun c1 => ?_)
  · have h := fn_pos c1 h
    refine pw_iload_n C dX5_guessEnd_7 rfl 1 rfl ?_
    refine pw_iconst (v := (1 : Int32)) C dX5_guessEnd_8 (by decide) ?_
    refine pw_icmp_ne (tgt := 22) C dX5_guessEnd_9 (by decide) (fun c9 => ?_) (fun c9 => ?_)
    · have h := fn_pos c9 h
      refine pw_aload_n C dX5_guessEnd_22 rfl 0 rfl ?_
      refine pw_get (v := .ref (gad G 4)) C iX5 (by decide) (pw_sh_0 _) rfl 2 (by decide) k1 rfl dX5_guessEnd_23 ?_
      refine pw_getN (v := .int (μ 4 1)) C iX2 (pw_ltD pw_K4) (pw_shD pw_K4 _) rfl 1 (by decide) 5 rfl rfl dX5_guessEnd_26 ?_
      exact pw_iret C h dX5_guessEnd_29
    · have h := fn_neg c9 h
      refine pw_aload_n C dX5_guessEnd_12 rfl 0 rfl ?_
      refine pw_get (v := .ref (gad G 4)) C iX5 (by decide) (pw_sh_0 _) rfl 2 (by decide) k1 rfl dX5_guessEnd_13 ?_
      refine pw_getN (v := .int (μ 4 4)) C iX2 (pw_ltD pw_K4) (pw_shD pw_K4 _) rfl 4 (by decide) 11 rfl rfl dX5_guessEnd_16 ?_
      refine pw_goto (tgt := 29) C dX5_guessEnd_19 (by decide) ?_
      exact pw_iret C h dX5_guessEnd_29
  · have h := fn_neg c1 h
    refine pw_bipush (v := (6 : Int32)) C dX5_guessEnd_4 (by decide) ?_
    exact pw_iret C h dX5_guessEnd_6
set_option maxHeartbeats 4000000 in
set_option maxRecDepth 100000 in
theorem ct_X5_suppose (l : Launch) {G : pw_G} (hG : pw_Ok G) {a1 : Int32} {a2 : Int32} {a3 : Int32}  {μ μ' : pw_Mem} (h : fn_X5_suppose a1 a2 a3 μ = some μ') : Met l yX5_suppose wsX5_suppose ({ frames := 0, cells := 0, slots := 0, locals := 0 }) (va_Pc [.ref (gad G 0), .int a1, .int a2, .int a3] (pw_Pre G μ)) (va_Qv (fun (u : pw_Mem) => u = μ') (pw_B G) (gA G)) 0 0 (gA G) := by
  refine pw_met (lv := [(0, .ref (gad G 0)), (1, .int a1), (2, .int a2), (3, .int a3)]) (own := RX5) (cc := cX5_suppose) (maxL := 4) (ret := none) hG rfl (by decide) rfl rfl (Nat.le_of_ble_eq_true rfl) ?_
  intro p e s m below meth c C
  have iX2 : ∀ w ∈ u_ws RX2 TX2 12, w ∈ wsX5_suppose := fun _ h => List.mem_cons_of_mem _ (List.mem_append_right _ (h))
  have iX5 : ∀ w ∈ u_ws RX5 TX5 10, w ∈ wsX5_suppose := fun _ h => List.mem_cons_of_mem _ (List.mem_append_left _ (List.mem_append_right _ (h)))
  have k1 := C.2.2.2.2.1 (.fieldLink RX5 29 "PulpitRoads" "foretold" "LPulpitRoads$Road;") (List.mem_cons_of_mem _ (List.mem_append_left _ (List.mem_append_left _ (List.mem_of_getElem? (i := 0) rfl))))
  unfold fn_X5_suppose at h
  refine pw_iload_n C dX5_suppose_0 rfl 2 rfl ?_
  refine pw_if_ne (tgt := 17) C dX5_suppose_1 (by decide) (fun c1 => ?_) (fun c1 => ?_)
  · have h := fn_pos c1 h
    refine pw_iload_n C dX5_suppose_17 rfl 2 rfl ?_
    refine pw_iconst (v := (1 : Int32)) C dX5_suppose_18 (by decide) ?_
    refine pw_icmp_ne (tgt := 35) C dX5_suppose_19 (by decide) (fun c19 => ?_) (fun c19 => ?_)
    · have h := fn_pos c19 h
      refine pw_iload_n C dX5_suppose_35 rfl 2 rfl ?_
      refine pw_iconst (v := (2 : Int32)) C dX5_suppose_36 (by decide) ?_
      refine pw_icmp_ne (tgt := 51) C dX5_suppose_37 (by decide) (fun c37 => ?_) (fun c37 => ?_)
      · have h := fn_pos c37 h
        refine pw_aload_n C dX5_suppose_51 rfl 0 rfl ?_
        refine pw_get (v := .ref (gad G 11)) C iX5 (by decide) (pw_sh_0 _) rfl 3 (by decide) k1 rfl dX5_suppose_52 ?_
        refine pw_getN (v := .ref (gad G (11 + 5))) C iX2 (pw_ltD pw_K11) (pw_shD pw_K11 _) rfl 10 (by decide) 28 rfl rfl dX5_suppose_55 ?_
        refine pw_iload_n C dX5_suppose_58 rfl 1 rfl ?_
        refine pw_iload_n C dX5_suppose_59 rfl 3 rfl ?_
        obtain ⟨hi60, h⟩ := fn_ix_s h
        refine pw_iast C (pw_ltD6 pw_K11 5 (by decide)) (pw_shD5 pw_K11) hi60 dX5_suppose_60 ?_
        exact pw_vret C h dX5_suppose_61
      · have h := fn_neg c37 h
        refine pw_aload_n C dX5_suppose_40 rfl 0 rfl ?_
        refine pw_get (v := .ref (gad G 11)) C iX5 (by decide) (pw_sh_0 _) rfl 3 (by decide) k1 rfl dX5_suppose_41 ?_
        refine pw_iload_n C dX5_suppose_44 rfl 3 rfl ?_
        refine pw_putN (host := "PulpitRoads") (ty := .int) C iX2 tyX2 tyX2_ok nmX2 (pw_ltD pw_K11) (pw_shD pw_K11 _) rfl 2 (by decide) (pw_shD pw_K11 _) 7 rfl rfl (by decide +kernel) (fn_int _) (Nat.le_of_ble_eq_true rfl) dX5_suppose_45 ?_
        refine pw_goto (tgt := 61) C dX5_suppose_48 (by decide) ?_
        exact pw_vret C h dX5_suppose_61
    · have h := fn_neg c19 h
      refine pw_aload_n C dX5_suppose_22 rfl 0 rfl ?_
      refine pw_get (v := .ref (gad G 11)) C iX5 (by decide) (pw_sh_0 _) rfl 3 (by decide) k1 rfl dX5_suppose_23 ?_
      refine pw_getN (v := .ref (gad G (11 + 4))) C iX2 (pw_ltD pw_K11) (pw_shD pw_K11 _) rfl 9 (by decide) 24 rfl rfl dX5_suppose_26 ?_
      refine pw_iload_n C dX5_suppose_29 rfl 1 rfl ?_
      refine pw_iload_n C dX5_suppose_30 rfl 3 rfl ?_
      obtain ⟨hi31, h⟩ := fn_ix_s h
      refine pw_iast C (pw_ltD6 pw_K11 4 (by decide)) (pw_shD4 pw_K11) hi31 dX5_suppose_31 ?_
      refine pw_goto (tgt := 61) C dX5_suppose_32 (by decide) ?_
      exact pw_vret C h dX5_suppose_61
  · have h := fn_neg c1 h
    refine pw_aload_n C dX5_suppose_4 rfl 0 rfl ?_
    refine pw_get (v := .ref (gad G 11)) C iX5 (by decide) (pw_sh_0 _) rfl 3 (by decide) k1 rfl dX5_suppose_5 ?_
    refine pw_getN (v := .ref (gad G (11 + 3))) C iX2 (pw_ltD pw_K11) (pw_shD pw_K11 _) rfl 8 (by decide) 20 rfl rfl dX5_suppose_8 ?_
    refine pw_iload_n C dX5_suppose_11 rfl 1 rfl ?_
    refine pw_iload_n C dX5_suppose_12 rfl 3 rfl ?_
    obtain ⟨hi13, h⟩ := fn_ix_s h
    refine pw_iast C (pw_ltD6 pw_K11 3 (by decide)) (pw_shD3 pw_K11) hi13 dX5_suppose_13 ?_
    refine pw_goto (tgt := 61) C dX5_suppose_14 (by decide) ?_
    exact pw_vret C h dX5_suppose_61
set_option maxHeartbeats 4000000 in
set_option maxRecDepth 100000 in
theorem ct_X5_fits (l : Launch) {G : pw_G} (hG : pw_Ok G) {a1 : Int32} {a2 : Int32} {a3 : Int32} {a4 : Int32} {a5 : Int32}  {μ μ' : pw_Mem} {r : Int32} (h : fn_X5_fits a1 a2 a3 a4 a5 μ = some (r, μ')) : Met l yX5_fits wsX5_fits ({ frames := 5, cells := 0, slots := 0, locals := 116 }) (va_Pc [.ref (gad G 0), .int a1, .int a2, .int a3, .int a4, .int a5] (pw_Pre G μ)) (va_Qi (fun (r1 : Int32) (u : pw_Mem) => r1 = r ∧ u = μ') (pw_B G) (gA G)) 0 0 (gA G) := by
  refine pw_met (lv := [(0, .ref (gad G 0)), (1, .int a1), (2, .int a2), (3, .int a3), (4, .int a4), (5, .int a5)]) (own := RX5) (cc := cX5_fits) (maxL := 10) (ret := some .int) hG rfl (by decide) rfl rfl (Nat.le_of_ble_eq_true rfl) ?_
  intro p e s m below meth c C
  have iX3 : ∀ w ∈ u_ws RX3 TX3 4, w ∈ wsX5_fits := fun _ h => List.mem_cons_of_mem _ (List.mem_append_left _ (List.mem_append_right _ (h)))
  have iX5 : ∀ w ∈ u_ws RX5 TX5 10, w ∈ wsX5_fits := fun _ h => List.mem_cons_of_mem _ (List.mem_append_left _ (List.mem_append_left _ (List.mem_append_right _ (h))))
  have k1 := C.2.2.2.2.1 (.constant RX5 59 (-1000001)) (List.mem_cons_of_mem _ (List.mem_append_left _ (List.mem_append_left _ (List.mem_append_left _ (List.mem_append_left _ (List.mem_of_getElem? (i := 0) rfl))))))
  have k2 := C.2.2.2.2.1 (.fieldLink RX5 11 "PulpitRoads" "rows" "[LPulpitRoads$Row;") (List.mem_cons_of_mem _ (List.mem_append_left _ (List.mem_append_left _ (List.mem_append_left _ (List.mem_append_left _ (List.mem_of_getElem? (i := 1) rfl))))))
  have k22 := C.2.2.2.2.1 (.instanceMethod yX3_hasPlaces) (List.mem_cons_of_mem _ (List.mem_append_left _ (List.mem_append_left _ (List.mem_append_left _ (List.mem_append_left _ (List.mem_of_getElem? (i := 21) rfl))))))
  have k23 := C.2.2.2.2.1 (.initialized RX3) (List.mem_cons_of_mem _ (List.mem_append_left _ (List.mem_append_left _ (List.mem_append_left _ (List.mem_append_left _ (List.mem_of_getElem? (i := 22) rfl))))))
  have k24 := C.2.2.2.2.1 (.selects RX3 yX3_hasPlaces yX3_hasPlaces) (List.mem_cons_of_mem _ (List.mem_append_left _ (List.mem_append_left _ (List.mem_append_left _ (List.mem_append_left _ (List.mem_of_getElem? (i := 23) rfl))))))
  have k3 := C.2.2.2.2.1 (.fieldLink RX5 29 "PulpitRoads" "foretold" "LPulpitRoads$Road;") (List.mem_cons_of_mem _ (List.mem_append_left _ (List.mem_append_left _ (List.mem_append_left _ (List.mem_append_left _ (List.mem_of_getElem? (i := 2) rfl))))))
  have k31 := C.2.2.2.2.1 (.instanceMethod yX2_take) (List.mem_cons_of_mem _ (List.mem_append_left _ (List.mem_append_left _ (List.mem_append_left _ (List.mem_append_right _ (List.mem_append_left _ (List.mem_of_getElem? (i := 6) rfl)))))))
  have k32 := C.2.2.2.2.1 (.initialized RX2) (List.mem_cons_of_mem _ (List.mem_append_left _ (List.mem_append_left _ (List.mem_append_left _ (List.mem_append_right _ (List.mem_append_left _ (List.mem_of_getElem? (i := 7) rfl)))))))
  have k33 := C.2.2.2.2.1 (.selects RX2 yX2_take yX2_take) (List.mem_cons_of_mem _ (List.mem_append_left _ (List.mem_append_left _ (List.mem_append_left _ (List.mem_append_right _ (List.mem_append_left _ (List.mem_of_getElem? (i := 8) rfl)))))))
  have k4 := C.2.2.2.2.1 (.fieldLink RX5 25 "PulpitRoads" "now" "LPulpitRoads$Road;") (List.mem_cons_of_mem _ (List.mem_append_left _ (List.mem_append_left _ (List.mem_append_left _ (List.mem_append_left _ (List.mem_of_getElem? (i := 3) rfl))))))
  have nm11 : va_Nw (.methodLinkNest RX5 118 yX2_take "PulpitRoads") s := C.2.2.2.2.2.2.2.1.2.1.2 ("PulpitRoads", 118, ⟨"PulpitRoads$Road", "take", "(LPulpitRoads$Road;)V"⟩, "PulpitRoads") (List.mem_of_getElem? (i := 11) rfl)
  have nm6 : va_Nw (.methodLinkNest RX5 75 yX3_hasPlaces "PulpitRoads") s := C.2.2.2.2.2.2.2.1.2.1.2 ("PulpitRoads", 75, ⟨"PulpitRoads$Row", "hasPlaces", "(II)Z"⟩, "PulpitRoads") (List.mem_of_getElem? (i := 6) rfl)
  unfold fn_X5_fits at h
  refine pw_aload_n C dX5_fits_0 rfl 0 rfl ?_
  refine pw_iload_n C dX5_fits_1 rfl 1 rfl ?_
  obtain ⟨r2, m2, hc2, h⟩ := fn_bi_s h
  refine pw_callVi (rest := []) C (by decide) (pw_sh_0 _) rfl (ct_X5_isPulpit l C.2.2.2.2.2.2.2.2 hc2) (cwV 1 C.2.2.2.2.1 gX5_fits_X5_isPulpit rfl rfl rfl (by decide +kernel) ⟨Nat.le_of_ble_eq_true rfl, Nat.le_of_ble_eq_true rfl⟩) rfl rfl (Nat.le_of_ble_eq_true rfl) dX5_fits_2 ?_
  refine pw_if_eq (tgt := 36) C dX5_fits_5 (by decide) (fun c5 => ?_) (fun c5 => ?_)
  · have h := fn_pos c5 h
    refine pw_ldc C k1 dX5_fits_36 ?_
    exact pw_iret C h dX5_fits_38
  · have h := fn_neg c5 h
    refine pw_iload_n C dX5_fits_8 rfl 2 rfl ?_
    obtain ⟨r9, m9, hc9, h⟩ := fn_bi_s h
    refine pw_callSi (rest := []) C (ct_X5_isRow l C.2.2.2.2.2.2.2.2 hc9) (va_cwS 1 C.2.2.2.2.1 gX5_fits_X5_isRow rfl rfl rfl (by decide +kernel) ⟨Nat.le_of_ble_eq_true rfl, Nat.le_of_ble_eq_true rfl⟩) rfl rfl (Nat.le_of_ble_eq_true rfl) dX5_fits_9 ?_
    refine pw_if_eq (tgt := 36) C dX5_fits_12 (by decide) (fun c12 => ?_) (fun c12 => ?_)
    · have h := fn_pos c12 h
      refine pw_ldc C k1 dX5_fits_36 ?_
      exact pw_iret C h dX5_fits_38
    · have h := fn_neg c12 h
      refine pw_iload C dX5_fits_15 4 rfl ?_
      refine pw_iconst (v := (1 : Int32)) C dX5_fits_17 (by decide) ?_
      refine pw_bipush (v := (12 : Int32)) C dX5_fits_18 (by decide) ?_
      obtain ⟨r20, m20, hc20, h⟩ := fn_bi_s h
      refine pw_callSi (rest := []) C (ct_X5_isWithin l C.2.2.2.2.2.2.2.2 hc20) (va_cwS 3 C.2.2.2.2.1 gX5_fits_X5_isWithin rfl rfl rfl (by decide +kernel) ⟨Nat.le_of_ble_eq_true rfl, Nat.le_of_ble_eq_true rfl⟩) rfl rfl (Nat.le_of_ble_eq_true rfl) dX5_fits_20 ?_
      refine pw_if_eq (tgt := 36) C dX5_fits_23 (by decide) (fun c23 => ?_) (fun c23 => ?_)
      · have h := fn_pos c23 h
        refine pw_ldc C k1 dX5_fits_36 ?_
        exact pw_iret C h dX5_fits_38
      · have h := fn_neg c23 h
        refine pw_iload C dX5_fits_26 5 rfl ?_
        refine pw_iconst (v := (0 : Int32)) C dX5_fits_28 (by decide) ?_
        refine pw_iconst (v := (3 : Int32)) C dX5_fits_29 (by decide) ?_
        obtain ⟨r30, m30, hc30, h⟩ := fn_bi_s h
        refine pw_callSi (rest := []) C (ct_X5_isWithin l C.2.2.2.2.2.2.2.2 hc30) (va_cwS 3 C.2.2.2.2.1 gX5_fits_X5_isWithin rfl rfl rfl (by decide +kernel) ⟨Nat.le_of_ble_eq_true rfl, Nat.le_of_ble_eq_true rfl⟩) rfl rfl (Nat.le_of_ble_eq_true rfl) dX5_fits_30 ?_
        refine pw_if_ne (tgt := 39) C dX5_fits_33 (by decide) (fun c33 => ?_) (fun c33 => ?_)
        · have h := fn_pos c33 h
          refine pw_aload_n C dX5_fits_39 rfl 0 rfl ?_
          refine pw_get (v := .ref (gad G 1)) C iX5 (by decide) (pw_sh_0 _) rfl 0 (by decide) k2 rfl dX5_fits_40 ?_
          refine pw_iload_n C dX5_fits_43 rfl 2 rfl ?_
          obtain ⟨hi44, h⟩ := fn_ix_s h
          refine pw_aldR C hi44 dX5_fits_44 ?_
          refine pw_astore (lv' := [(6, .ref (gad G (24 + 2 * (a2).toNatClampNeg))), (0, .ref (gad G 0)), (1, .int a1), (2, .int a2), (3, .int a3), (4, .int a4), (5, .int a5)]) C dX5_fits_45 (by decide) rfl ?_
          refine pw_aload C dX5_fits_47 0 rfl ?_
          refine pw_getN (v := .int (m30 (24 + 2 * (a2).toNatClampNeg) 1)) C iX3 (pw_ltR (pw_KR_of hi44)) (pw_shR (pw_KR_of hi44) _) rfl 1 (by decide) 34 rfl rfl dX5_fits_49 ?_
          refine pw_if_eq (tgt := 61) C dX5_fits_52 (by decide) (fun c52 => ?_) (fun c52 => ?_)
          · have h := fn_pos c52 h
            refine pw_aload C dX5_fits_61 0 rfl ?_
            refine pw_iload_n C dX5_fits_63 rfl 4 rfl ?_
            refine pw_iload C dX5_fits_64 5 rfl ?_
            obtain ⟨r66, m66, hc66, h⟩ := fn_bi_s h
            refine pw_callVNi (rest := []) C (pw_ltR (pw_KR_of hi44)) (pw_shR (pw_KR_of hi44) _) rfl (ct_X3_hasPlaces l C.2.2.2.2.2.2.2.2 (pw_KR_of hi44) hc66) ⟨va_cnB 2 C.2.2.2.2.1 gX5_fits_X3_hasPlaces_n75 rfl rfl rfl nm6 k23 (by decide +kernel) ⟨Nat.le_of_ble_eq_true rfl, Nat.le_of_ble_eq_true rfl⟩, k22, k24⟩ rfl rfl (Nat.le_of_ble_eq_true rfl) dX5_fits_66 ?_
            refine pw_if_ne (tgt := 78) C dX5_fits_69 (by decide) (fun c69 => ?_) (fun c69 => ?_)
            · have h := fn_pos c69 h
              refine pw_iconst (v := (0 : Int32)) C dX5_fits_78 (by decide) ?_
              refine pw_istore (lv' := [(7, .int (0 : Int32)), (6, .ref (gad G (24 + 2 * (a2).toNatClampNeg))), (0, .ref (gad G 0)), (1, .int a1), (2, .int a2), (3, .int a3), (4, .int a4), (5, .int a5)]) C dX5_fits_79 (by decide) rfl ?_
              refine pw_aload_n C dX5_fits_81 rfl 2 rfl ?_
              refine pw_iload C dX5_fits_82 7 rfl ?_
              obtain ⟨r84, m84, hc84, h⟩ := fn_bi_s h
              refine pw_callVi (rest := []) C (by decide) (pw_sh_0 _) rfl (ct_X5_guessEnd l C.2.2.2.2.2.2.2.2 hc84) (cwV 1 C.2.2.2.2.1 gX5_fits_X5_guessEnd rfl rfl rfl (by decide +kernel) ⟨Nat.le_of_ble_eq_true rfl, Nat.le_of_ble_eq_true rfl⟩) rfl rfl (Nat.le_of_ble_eq_true rfl) dX5_fits_84 ?_
              refine pw_istore (lv' := [(8, .int r84), (7, .int (0 : Int32)), (6, .ref (gad G (24 + 2 * (a2).toNatClampNeg))), (0, .ref (gad G 0)), (1, .int a1), (2, .int a2), (3, .int a3), (4, .int a4), (5, .int a5)]) C dX5_fits_87 (by decide) rfl ?_
              refine pw_iload C dX5_fits_89 8 rfl ?_
              refine fn_jn1_s (fun x99_0 m99 => pw_Go p l e ({ frames := 5, cells := 0, slots := 0, locals := 116 }) s m (([.ref (gad G 0), .int a1, .int a2, .int a3, .int a4, .int a5] : List Value).toArray) below meth c (MQ below (va_Qi (fun (r1 : Int32) (u : pw_Mem) => r1 = r ∧ u = μ') (pw_B G) (gA G)) (([.ref (gad G 0), .int a1, .int a2, .int a3, .int a4, .int a5] : List Value).toArray) s 0 0 (gA G)) G 10 99 [(0, .ref (gad G 0)), (1, .int a1), (3, .int a3), (4, .int a4), (5, .int a5), (6, .ref (gad G (24 + 2 * (a2).toNatClampNeg))), (7, .int (0 : Int32)), (8, .int r84)] [.int x99_0] m99) h (fun x99_0 m99 h => ?_) (fun k99 hk99 h => ?_)
              · refine pw_istore (lv' := [(9, .int x99_0), (0, .ref (gad G 0)), (1, .int a1), (3, .int a3), (4, .int a4), (5, .int a5), (6, .ref (gad G (24 + 2 * (a2).toNatClampNeg))), (7, .int (0 : Int32)), (8, .int r84)]) C dX5_fits_99 (by decide) rfl ?_
                have L101 : ∀ (k : Int32 → pw_Mem → Option (Int32 × pw_Mem)) (hk : ∀ (v7 : Int32) (m1 : pw_Mem), k v7 m1 = some (r, μ') → pw_Go p l e ({ frames := 5, cells := 0, slots := 0, locals := 116 }) s m (([.ref (gad G 0), .int a1, .int a2, .int a3, .int a4, .int a5] : List Value).toArray) below meth c (MQ below (va_Qi (fun (r1 : Int32) (u : pw_Mem) => r1 = r ∧ u = μ') (pw_B G) (gA G)) (([.ref (gad G 0), .int a1, .int a2, .int a3, .int a4, .int a5] : List Value).toArray) s 0 0 (gA G)) G 10 156 [(0, .ref (gad G 0)), (7, .int v7)] [] m1) (n : Nat) (v7 : Int32) (v9 : Int32) (m1 : pw_Mem), fl_X5_fits_101 k a1 a3 a4 a5 (24 + 2 * (a2).toNatClampNeg) r84 n v7 v9 m1 = some (r, μ') → pw_Go p l e ({ frames := 5, cells := 0, slots := 0, locals := 116 }) s m (([.ref (gad G 0), .int a1, .int a2, .int a3, .int a4, .int a5] : List Value).toArray) below meth c (MQ below (va_Qi (fun (r1 : Int32) (u : pw_Mem) => r1 = r ∧ u = μ') (pw_B G) (gA G)) (([.ref (gad G 0), .int a1, .int a2, .int a3, .int a4, .int a5] : List Value).toArray) s 0 0 (gA G)) G 10 101 [(0, .ref (gad G 0)), (1, .int a1), (3, .int a3), (4, .int a4), (5, .int a5), (6, .ref (gad G (24 + 2 * (a2).toNatClampNeg))), (7, .int v7), (8, .int r84), (9, .int v9)] [] m1 := by
                  intro k hk n
                  induction n with
                  | zero => intro v7 v9 m1 h; exact nomatch (show (none : Option (Int32 × pw_Mem)) = some _ from h)
                  | succ n ih =>
                    intro v7 v9 m1 h
                    rw [fl_X5_fits_101] at h
                    refine pw_iload C dX5_fits_101 8 rfl ?_
                    refine pw_iload C dX5_fits_103 7 rfl ?_
                    refine pw_icmp_ge (tgt := 156) C dX5_fits_105 (by decide) (fun c105 => ?_) (fun c105 => ?_)
                    · have h := fn_pos c105 h
                      refine pw_sub [0, 6] rfl ?_
                      exact hk _ _ h
                    · have h := fn_neg c105 h
                      refine pw_aload_n C dX5_fits_108 rfl 0 rfl ?_
                      refine pw_get (v := .ref (gad G 11)) C iX5 (by decide) (pw_sh_0 _) rfl 3 (by decide) k3 rfl dX5_fits_109 ?_
                      refine pw_aload_n C dX5_fits_112 rfl 0 rfl ?_
                      refine pw_get (v := .ref (gad G 4)) C iX5 (by decide) (pw_sh_0 _) rfl 2 (by decide) k4 rfl dX5_fits_113 ?_
                      obtain ⟨m116, hc116, h⟩ := fn_bv_s h
                      refine pw_callVNv (rest := []) C (pw_ltD pw_K11) (pw_shD pw_K11 _) rfl (ct_X2_take l C.2.2.2.2.2.2.2.2 pw_K11 pw_K4 hc116) ⟨va_cnB 1 C.2.2.2.2.1 gX5_fits_X2_take_n118 rfl rfl rfl nm11 k32 (by decide +kernel) ⟨Nat.le_of_ble_eq_true rfl, Nat.le_of_ble_eq_true rfl⟩, k31, k33⟩ rfl rfl (Nat.le_of_ble_eq_true rfl) dX5_fits_116 ?_
                      refine pw_aload_n C dX5_fits_119 rfl 0 rfl ?_
                      refine pw_iload_n C dX5_fits_120 rfl 1 rfl ?_
                      refine pw_iload C dX5_fits_121 4 rfl ?_
                      refine pw_iload C dX5_fits_123 8 rfl ?_
                      obtain ⟨m125, hc125, h⟩ := fn_bv_s h
                      refine pw_callVv (rest := []) C (by decide) (pw_sh_0 _) rfl (ct_X5_suppose l C.2.2.2.2.2.2.2.2 hc125) (cwV 3 C.2.2.2.2.1 gX5_fits_X5_suppose rfl rfl rfl (by decide +kernel) ⟨Nat.le_of_ble_eq_true rfl, Nat.le_of_ble_eq_true rfl⟩) rfl rfl (Nat.le_of_ble_eq_true rfl) dX5_fits_125 ?_
                      refine pw_aload_n C dX5_fits_128 rfl 0 rfl ?_
                      refine pw_iload_n C dX5_fits_129 rfl 1 rfl ?_
                      refine pw_aload C dX5_fits_130 5 rfl ?_
                      refine pw_iload_n C dX5_fits_132 rfl 2 rfl ?_
                      refine pw_iload C dX5_fits_133 3 rfl ?_
                      obtain ⟨r135, m135, hc135, h⟩ := fn_bi_s h
                      refine pw_callVi (rest := []) C (by decide) (pw_sh_0 _) rfl (ct_X5_goesAsTold l C.2.2.2.2.2.2.2.2 (pw_KR_of hi44) hc135) (cwV 4 C.2.2.2.2.1 gX5_fits_X5_goesAsTold rfl rfl rfl (by decide +kernel) ⟨Nat.le_of_ble_eq_true rfl, Nat.le_of_ble_eq_true rfl⟩) rfl rfl (Nat.le_of_ble_eq_true rfl) dX5_fits_135 ?_
                      refine fn_jn1_s (fun x150_0 m150 => pw_Go p l e ({ frames := 5, cells := 0, slots := 0, locals := 116 }) s m (([.ref (gad G 0), .int a1, .int a2, .int a3, .int a4, .int a5] : List Value).toArray) below meth c (MQ below (va_Qi (fun (r1 : Int32) (u : pw_Mem) => r1 = r ∧ u = μ') (pw_B G) (gA G)) (([.ref (gad G 0), .int a1, .int a2, .int a3, .int a4, .int a5] : List Value).toArray) s 0 0 (gA G)) G 10 150 [(0, .ref (gad G 0)), (1, .int a1), (3, .int a3), (4, .int a4), (5, .int a5), (6, .ref (gad G (24 + 2 * (a2).toNatClampNeg))), (7, .int x150_0), (8, .int r84), (9, .int v9)] [] m150) h (fun x150_0 m150 h => ?_) (fun k150 hk150 h => ?_)
                      · refine pw_iinc (v := (v9 + 1)) (lv' := [(9, .int (v9 + 1)), (0, .ref (gad G 0)), (1, .int a1), (3, .int a3), (4, .int a4), (5, .int a5), (6, .ref (gad G (24 + 2 * (a2).toNatClampNeg))), (7, .int x150_0), (8, .int r84)]) C dX5_fits_150 (q := 8) rfl rfl (by decide) rfl ?_
                        refine pw_goto (tgt := 101) C dX5_fits_153 (by decide) ?_
                        refine pw_sub [1, 2, 3, 4, 5, 6, 7, 8, 0] rfl ?_
                        exact ih _ _ _ h
                      · refine pw_if_eq (tgt := 150) C dX5_fits_138 (by decide) (fun c138 => ?_) (fun c138 => ?_)
                        · have h := fn_pos c138 h
                          exact hk150 _ _ h
                        · have h := fn_neg c138 h
                          refine pw_iload C dX5_fits_141 6 rfl ?_
                          refine pw_iconst (v := (1 : Int32)) C dX5_fits_143 (by decide) ?_
                          refine pw_iload C dX5_fits_144 8 rfl ?_
                          refine pw_ishl C dX5_fits_146 ?_
                          refine pw_ior C dX5_fits_147 ?_
                          refine pw_istore (lv' := [(7, .int (v7 ||| ((1 : Int32) <<< (v9 &&& 31)))), (0, .ref (gad G 0)), (1, .int a1), (3, .int a3), (4, .int a4), (5, .int a5), (6, .ref (gad G (24 + 2 * (a2).toNatClampNeg))), (8, .int r84), (9, .int v9)]) C dX5_fits_148 (by decide) rfl ?_
                          refine pw_sub [1, 2, 3, 4, 5, 6, 0, 7, 8] rfl ?_
                          exact hk150 _ _ h
                refine pw_sub [1, 2, 3, 4, 5, 6, 7, 8, 0] rfl ?_
                refine L101 _ (fun y101_7 m156 h => ?_) _ _ _ _ h
                refine pw_aload_n C dX5_fits_156 rfl 0 rfl ?_
                refine pw_iload C dX5_fits_157 1 rfl ?_
                obtain ⟨r159, m159, hc159, h⟩ := fn_bi_s h
                refine pw_callVi (rest := []) C (by decide) (pw_sh_0 _) rfl (ct_X5_foundNothing l C.2.2.2.2.2.2.2.2 hc159) (cwV 1 C.2.2.2.2.1 gX5_fits_X5_foundNothing rfl rfl rfl (by decide +kernel) ⟨Nat.le_of_ble_eq_true rfl, Nat.le_of_ble_eq_true rfl⟩) rfl rfl (Nat.le_of_ble_eq_true rfl) dX5_fits_159 ?_
                exact pw_iret C h dX5_fits_162
              · refine pw_if_ne (tgt := 98) C dX5_fits_91 (by decide) (fun c91 => ?_) (fun c91 => ?_)
                · have h := fn_pos c91 h
                  refine pw_iconst (v := (0 : Int32)) C dX5_fits_98 (by decide) ?_
                  refine pw_sub [3, 4, 6, 7, 8, 2, 1, 0] rfl ?_
                  exact hk99 _ _ h
                · have h := fn_neg c91 h
                  refine pw_iconst (v := (1 : Int32)) C dX5_fits_94 (by decide) ?_
                  refine pw_goto (tgt := 99) C dX5_fits_95 (by decide) ?_
                  refine pw_sub [3, 4, 6, 7, 8, 2, 1, 0] rfl ?_
                  exact hk99 _ _ h
            · have h := fn_neg c69 h
              refine pw_aload_n C dX5_fits_72 rfl 1 rfl ?_
              refine pw_iconst (v := (2 : Int32)) C dX5_fits_73 (by decide) ?_
              obtain ⟨r74, m74, hc74, h⟩ := fn_bi_s h
              refine pw_callVi (rest := []) C (by decide) (pw_sh_0 _) rfl (ct_X5_found l C.2.2.2.2.2.2.2.2 hc74) (cwV 1 C.2.2.2.2.1 gX5_fits_X5_found rfl rfl rfl (by decide +kernel) ⟨Nat.le_of_ble_eq_true rfl, Nat.le_of_ble_eq_true rfl⟩) rfl rfl (Nat.le_of_ble_eq_true rfl) dX5_fits_74 ?_
              exact pw_iret C h dX5_fits_77
          · have h := fn_neg c52 h
            refine pw_aload_n C dX5_fits_55 rfl 1 rfl ?_
            refine pw_iconst (v := (1 : Int32)) C dX5_fits_56 (by decide) ?_
            obtain ⟨r57, m57, hc57, h⟩ := fn_bi_s h
            refine pw_callVi (rest := []) C (by decide) (pw_sh_0 _) rfl (ct_X5_found l C.2.2.2.2.2.2.2.2 hc57) (cwV 1 C.2.2.2.2.1 gX5_fits_X5_found rfl rfl rfl (by decide +kernel) ⟨Nat.le_of_ble_eq_true rfl, Nat.le_of_ble_eq_true rfl⟩) rfl rfl (Nat.le_of_ble_eq_true rfl) dX5_fits_57 ?_
            exact pw_iret C h dX5_fits_60
        · have h := fn_neg c33 h
          refine pw_ldc C k1 dX5_fits_36 ?_
          exact pw_iret C h dX5_fits_38
set_option maxHeartbeats 4000000 in
set_option maxRecDepth 100000 in
theorem ct_X5_commonDivisor (l : Launch) {G : pw_G} (hG : pw_Ok G) {a0 : Int32} {a1 : Int32}  {μ μ' : pw_Mem} {r : Int32} (h : fn_X5_commonDivisor a0 a1 μ = some (r, μ')) : Met l yX5_commonDivisor wsX5_commonDivisor ({ frames := 0, cells := 0, slots := 0, locals := 0 }) (va_Pc [.int a0, .int a1] (pw_Pre G μ)) (va_Qi (fun (r1 : Int32) (u : pw_Mem) => r1 = r ∧ u = μ') (pw_B G) (gA G)) 0 0 (gA G) := by
  refine pw_met (lv := [(0, .int a0), (1, .int a1)]) (own := RX5) (cc := cX5_commonDivisor) (maxL := 3) (ret := some .int) hG rfl (by decide) rfl rfl (Nat.le_of_ble_eq_true rfl) ?_
  intro p e s m below meth c C
  unfold fn_X5_commonDivisor at h
  refine pw_bipush (v := (10 : Int32)) C dX5_commonDivisor_0 (by decide) ?_
  refine pw_istore_n (lv' := [(2, .int (10 : Int32)), (0, .int a0), (1, .int a1)]) C dX5_commonDivisor_2 rfl (by decide) rfl ?_
  have L3 : ∀ (k : pw_Mem → Option (Int32 × pw_Mem)) (hk : ∀  (m1 : pw_Mem), k m1 = some (r, μ') → pw_Go p l e ({ frames := 0, cells := 0, slots := 0, locals := 0 }) s m (([.int a0, .int a1] : List Value).toArray) below meth c (MQ below (va_Qi (fun (r1 : Int32) (u : pw_Mem) => r1 = r ∧ u = μ') (pw_B G) (gA G)) (([.int a0, .int a1] : List Value).toArray) s 0 0 (gA G)) G 3 28 [] [] m1) (n : Nat) (v2 : Int32) (m1 : pw_Mem), fl_X5_commonDivisor_3 k a0 a1 n v2 m1 = some (r, μ') → pw_Go p l e ({ frames := 0, cells := 0, slots := 0, locals := 0 }) s m (([.int a0, .int a1] : List Value).toArray) below meth c (MQ below (va_Qi (fun (r1 : Int32) (u : pw_Mem) => r1 = r ∧ u = μ') (pw_B G) (gA G)) (([.int a0, .int a1] : List Value).toArray) s 0 0 (gA G)) G 3 3 [(0, .int a0), (1, .int a1), (2, .int v2)] [] m1 := by
    intro k hk n
    induction n with
    | zero => intro v2 m1 h; exact nomatch (show (none : Option (Int32 × pw_Mem)) = some _ from h)
    | succ n ih =>
      intro v2 m1 h
      rw [fl_X5_commonDivisor_3] at h
      refine pw_iload_n C dX5_commonDivisor_3 rfl 2 rfl ?_
      refine pw_iconst (v := (1 : Int32)) C dX5_commonDivisor_4 (by decide) ?_
      refine pw_icmp_le (tgt := 28) C dX5_commonDivisor_5 (by decide) (fun c5 => ?_) (fun c5 => ?_)
      · have h := fn_pos c5 h
        refine pw_sub [] rfl ?_
        exact hk _ h
      · have h := fn_neg c5 h
        refine pw_iload_n C dX5_commonDivisor_8 rfl 0 rfl ?_
        refine pw_iload_n C dX5_commonDivisor_9 rfl 2 rfl ?_
        obtain ⟨hz10, h⟩ := fn_nz_s h
        refine pw_irem C dX5_commonDivisor_10 hz10 ?_
        refine fn_jn0_s (fun m22 => pw_Go p l e ({ frames := 0, cells := 0, slots := 0, locals := 0 }) s m (([.int a0, .int a1] : List Value).toArray) below meth c (MQ below (va_Qi (fun (r1 : Int32) (u : pw_Mem) => r1 = r ∧ u = μ') (pw_B G) (gA G)) (([.int a0, .int a1] : List Value).toArray) s 0 0 (gA G)) G 3 22 [(0, .int a0), (1, .int a1), (2, .int v2)] [] m22) h (fun m22 h => ?_) (fun k22 hk22 h => ?_)
        · refine pw_iinc (v := (v2 + (-1))) (lv' := [(2, .int (v2 + (-1))), (0, .int a0), (1, .int a1)]) C dX5_commonDivisor_22 (q := 2) rfl rfl (by decide) rfl ?_
          refine pw_goto (tgt := 3) C dX5_commonDivisor_25 (by decide) ?_
          refine pw_sub [1, 2, 0] rfl ?_
          exact ih _ _ h
        · refine pw_if_ne (tgt := 22) C dX5_commonDivisor_11 (by decide) (fun c11 => ?_) (fun c11 => ?_)
          · have h := fn_pos c11 h
            exact hk22 _ h
          · have h := fn_neg c11 h
            refine pw_iload_n C dX5_commonDivisor_14 rfl 1 rfl ?_
            refine pw_iload_n C dX5_commonDivisor_15 rfl 2 rfl ?_
            obtain ⟨hz16, h⟩ := fn_nz_s h
            refine pw_irem C dX5_commonDivisor_16 hz16 ?_
            refine pw_if_ne (tgt := 22) C dX5_commonDivisor_17 (by decide) (fun c17 => ?_) (fun c17 => ?_)
            · have h := fn_pos c17 h
              exact hk22 _ h
            · have h := fn_neg c17 h
              refine pw_iload_n C dX5_commonDivisor_20 rfl 2 rfl ?_
              exact pw_iret C h dX5_commonDivisor_21
  refine pw_sub [1, 2, 0] rfl ?_
  refine L3 _ (fun m28 h => ?_) _ _ _ h
  refine pw_iconst (v := (1 : Int32)) C dX5_commonDivisor_28 (by decide) ?_
  exact pw_iret C h dX5_commonDivisor_29
set_option maxHeartbeats 4000000 in
set_option maxRecDepth 100000 in
theorem ct_X5_tenthsOfHearing (l : Launch) {G : pw_G} (hG : pw_Ok G) {a1 : Int32} {a2 : Int32} {a3 : Int32}  {μ μ' : pw_Mem} {r : Int32} (h : fn_X5_tenthsOfHearing a1 a2 a3 μ = some (r, μ')) : Met l yX5_tenthsOfHearing wsX5_tenthsOfHearing ({ frames := 2, cells := 0, slots := 0, locals := 46 }) (va_Pc [.ref (gad G 0), .int a1, .int a2, .int a3] (pw_Pre G μ)) (va_Qi (fun (r1 : Int32) (u : pw_Mem) => r1 = r ∧ u = μ') (pw_B G) (gA G)) 0 0 (gA G) := by
  refine pw_met (lv := [(0, .ref (gad G 0)), (1, .int a1), (2, .int a2), (3, .int a3)]) (own := RX5) (cc := cX5_tenthsOfHearing) (maxL := 7) (ret := some .int) hG rfl (by decide) rfl rfl (Nat.le_of_ble_eq_true rfl) ?_
  intro p e s m below meth c C
  have iX2 : ∀ w ∈ u_ws RX2 TX2 12, w ∈ wsX5_tenthsOfHearing := fun _ h => List.mem_cons_of_mem _ (List.mem_append_right _ (h))
  have iX5 : ∀ w ∈ u_ws RX5 TX5 10, w ∈ wsX5_tenthsOfHearing := fun _ h => List.mem_cons_of_mem _ (List.mem_append_left _ (List.mem_append_right _ (h)))
  have k1 := C.2.2.2.2.1 (.fieldLink RX5 25 "PulpitRoads" "now" "LPulpitRoads$Road;") (List.mem_cons_of_mem _ (List.mem_append_left _ (List.mem_append_left _ (List.mem_of_getElem? (i := 0) rfl))))
  have k2 := C.2.2.2.2.1 (.instanceMethod yX2_councils) (List.mem_cons_of_mem _ (List.mem_append_left _ (List.mem_append_left _ (List.mem_of_getElem? (i := 1) rfl))))
  have k3 := C.2.2.2.2.1 (.initialized RX2) (List.mem_cons_of_mem _ (List.mem_append_left _ (List.mem_append_left _ (List.mem_of_getElem? (i := 2) rfl))))
  have k4 := C.2.2.2.2.1 (.selects RX2 yX2_councils yX2_councils) (List.mem_cons_of_mem _ (List.mem_append_left _ (List.mem_append_left _ (List.mem_of_getElem? (i := 3) rfl))))
  have k8 := C.2.2.2.2.1 (.instanceMethod yX2_sayings) (List.mem_cons_of_mem _ (List.mem_append_left _ (List.mem_append_left _ (List.mem_of_getElem? (i := 7) rfl))))
  have k9 := C.2.2.2.2.1 (.selects RX2 yX2_sayings yX2_sayings) (List.mem_cons_of_mem _ (List.mem_append_left _ (List.mem_append_left _ (List.mem_of_getElem? (i := 8) rfl))))
  have nm16 : va_Nw (.methodLinkNest RX5 171 yX2_councils "PulpitRoads") s := C.2.2.2.2.2.2.2.1.2.1.2 ("PulpitRoads", 171, ⟨"PulpitRoads$Road", "councils", "()I"⟩, "PulpitRoads") (List.mem_of_getElem? (i := 16) rfl)
  have nm17 : va_Nw (.methodLinkNest RX5 174 yX2_sayings "PulpitRoads") s := C.2.2.2.2.2.2.2.1.2.1.2 ("PulpitRoads", 174, ⟨"PulpitRoads$Road", "sayings", "(I)I"⟩, "PulpitRoads") (List.mem_of_getElem? (i := 17) rfl)
  unfold fn_X5_tenthsOfHearing at h
  refine pw_aload_n C dX5_tenthsOfHearing_0 rfl 0 rfl ?_
  refine pw_get (v := .ref (gad G 4)) C iX5 (by decide) (pw_sh_0 _) rfl 2 (by decide) k1 rfl dX5_tenthsOfHearing_1 ?_
  refine pw_getN (v := .ref (gad G (4 + 2))) C iX2 (pw_ltD pw_K4) (pw_shD pw_K4 _) rfl 7 (by decide) 17 rfl rfl dX5_tenthsOfHearing_4 ?_
  refine pw_iload_n C dX5_tenthsOfHearing_7 rfl 1 rfl ?_
  obtain ⟨hi8, h⟩ := fn_ix_s h
  refine pw_iald C (pw_ltD6 pw_K4 2 (by decide)) ((pw_shD2 pw_K4) _) hi8 dX5_tenthsOfHearing_8 ?_
  refine pw_iload_n C dX5_tenthsOfHearing_9 rfl 2 rfl ?_
  refine pw_ishr C dX5_tenthsOfHearing_10 ?_
  refine pw_iconst (v := (1 : Int32)) C dX5_tenthsOfHearing_11 (by decide) ?_
  refine pw_iand C dX5_tenthsOfHearing_12 ?_
  refine pw_if_eq (tgt := 19) C dX5_tenthsOfHearing_13 (by decide) (fun c13 => ?_) (fun c13 => ?_)
  · have h := fn_pos c13 h
    refine pw_aload_n C dX5_tenthsOfHearing_19 rfl 0 rfl ?_
    refine pw_get (v := .ref (gad G 4)) C iX5 (by decide) (pw_sh_0 _) rfl 2 (by decide) k1 rfl dX5_tenthsOfHearing_20 ?_
    obtain ⟨r23, m23, hc23, h⟩ := fn_bi_s h
    refine pw_callVNi (rest := []) C (pw_ltD pw_K4) (pw_shD pw_K4 _) rfl (ct_X2_councils l C.2.2.2.2.2.2.2.2 pw_K4 hc23) ⟨va_cnB 0 C.2.2.2.2.1 gX5_tenthsOfHearing_X2_councils_n171 rfl rfl rfl nm16 k3 (by decide +kernel) ⟨Nat.le_of_ble_eq_true rfl, Nat.le_of_ble_eq_true rfl⟩, k2, k4⟩ rfl rfl (Nat.le_of_ble_eq_true rfl) dX5_tenthsOfHearing_23 ?_
    refine pw_istore (lv' := [(4, .int r23), (0, .ref (gad G 0)), (1, .int a1), (2, .int a2), (3, .int a3)]) C dX5_tenthsOfHearing_26 (by decide) rfl ?_
    refine pw_iconst (v := (0 : Int32)) C dX5_tenthsOfHearing_28 (by decide) ?_
    refine pw_istore (lv' := [(5, .int (0 : Int32)), (4, .int r23), (0, .ref (gad G 0)), (1, .int a1), (2, .int a2), (3, .int a3)]) C dX5_tenthsOfHearing_29 (by decide) rfl ?_
    have L31 : ∀ (k : pw_Mem → Option (Int32 × pw_Mem)) (hk : ∀  (m1 : pw_Mem), k m1 = some (r, μ') → pw_Go p l e ({ frames := 2, cells := 0, slots := 0, locals := 46 }) s m (([.ref (gad G 0), .int a1, .int a2, .int a3] : List Value).toArray) below meth c (MQ below (va_Qi (fun (r1 : Int32) (u : pw_Mem) => r1 = r ∧ u = μ') (pw_B G) (gA G)) (([.ref (gad G 0), .int a1, .int a2, .int a3] : List Value).toArray) s 0 0 (gA G)) G 7 106 [] [] m1) (n : Nat) (v5 : Int32) (m1 : pw_Mem), fl_X5_tenthsOfHearing_31 k a1 a2 a3 r23 n v5 m1 = some (r, μ') → pw_Go p l e ({ frames := 2, cells := 0, slots := 0, locals := 46 }) s m (([.ref (gad G 0), .int a1, .int a2, .int a3] : List Value).toArray) below meth c (MQ below (va_Qi (fun (r1 : Int32) (u : pw_Mem) => r1 = r ∧ u = μ') (pw_B G) (gA G)) (([.ref (gad G 0), .int a1, .int a2, .int a3] : List Value).toArray) s 0 0 (gA G)) G 7 31 [(0, .ref (gad G 0)), (1, .int a1), (2, .int a2), (3, .int a3), (4, .int r23), (5, .int v5)] [] m1 := by
      intro k hk n
      induction n with
      | zero => intro v5 m1 h; exact nomatch (show (none : Option (Int32 × pw_Mem)) = some _ from h)
      | succ n ih =>
        intro v5 m1 h
        rw [fl_X5_tenthsOfHearing_31] at h
        refine pw_iload C dX5_tenthsOfHearing_31 5 rfl ?_
        refine pw_aload_n C dX5_tenthsOfHearing_33 rfl 0 rfl ?_
        refine pw_get (v := .ref (gad G 4)) C iX5 (by decide) (pw_sh_0 _) rfl 2 (by decide) k1 rfl dX5_tenthsOfHearing_34 ?_
        refine pw_getN (v := .int (m1 4 5)) C iX2 (pw_ltD pw_K4) (pw_shD pw_K4 _) rfl 5 (by decide) 13 rfl rfl dX5_tenthsOfHearing_37 ?_
        refine pw_icmp_ge (tgt := 106) C dX5_tenthsOfHearing_40 (by decide) (fun c40 => ?_) (fun c40 => ?_)
        · have h := fn_pos c40 h
          refine pw_sub [] rfl ?_
          exact hk _ h
        · have h := fn_neg c40 h
          refine pw_aload_n C dX5_tenthsOfHearing_43 rfl 0 rfl ?_
          refine pw_get (v := .ref (gad G 4)) C iX5 (by decide) (pw_sh_0 _) rfl 2 (by decide) k1 rfl dX5_tenthsOfHearing_44 ?_
          refine pw_getN (v := .ref (gad G (4 + 4))) C iX2 (pw_ltD pw_K4) (pw_shD pw_K4 _) rfl 9 (by decide) 24 rfl rfl dX5_tenthsOfHearing_47 ?_
          refine pw_iload C dX5_tenthsOfHearing_50 5 rfl ?_
          obtain ⟨hi52, h⟩ := fn_ix_s h
          refine pw_iald C (pw_ltD6 pw_K4 4 (by decide)) ((pw_shD4 pw_K4) _) hi52 dX5_tenthsOfHearing_52 ?_
          refine pw_iload_n C dX5_tenthsOfHearing_53 rfl 1 rfl ?_
          refine fn_jn1_s (fun x72_0 m72 => pw_Go p l e ({ frames := 2, cells := 0, slots := 0, locals := 46 }) s m (([.ref (gad G 0), .int a1, .int a2, .int a3] : List Value).toArray) below meth c (MQ below (va_Qi (fun (r1 : Int32) (u : pw_Mem) => r1 = r ∧ u = μ') (pw_B G) (gA G)) (([.ref (gad G 0), .int a1, .int a2, .int a3] : List Value).toArray) s 0 0 (gA G)) G 7 72 [(0, .ref (gad G 0)), (1, .int a1), (2, .int a2), (3, .int a3), (4, .int r23), (5, .int v5)] [.int x72_0] m72) h (fun x72_0 m72 h => ?_) (fun k72 hk72 h => ?_)
          · refine pw_istore (lv' := [(6, .int x72_0), (0, .ref (gad G 0)), (1, .int a1), (2, .int a2), (3, .int a3), (4, .int r23), (5, .int v5)]) C dX5_tenthsOfHearing_72 (by decide) rfl ?_
            refine pw_iload C dX5_tenthsOfHearing_74 0 rfl ?_
            refine fn_jn0_s (fun m100 => pw_Go p l e ({ frames := 2, cells := 0, slots := 0, locals := 46 }) s m (([.ref (gad G 0), .int a1, .int a2, .int a3] : List Value).toArray) below meth c (MQ below (va_Qi (fun (r1 : Int32) (u : pw_Mem) => r1 = r ∧ u = μ') (pw_B G) (gA G)) (([.ref (gad G 0), .int a1, .int a2, .int a3] : List Value).toArray) s 0 0 (gA G)) G 7 100 [(0, .ref (gad G 0)), (1, .int a1), (2, .int a2), (3, .int a3), (4, .int r23), (5, .int v5)] [] m100) h (fun m100 h => ?_) (fun k100 hk100 h => ?_)
            · refine pw_iinc (v := (v5 + 1)) (lv' := [(5, .int (v5 + 1)), (0, .ref (gad G 0)), (1, .int a1), (2, .int a2), (3, .int a3), (4, .int r23)]) C dX5_tenthsOfHearing_100 (q := 5) rfl rfl (by decide) rfl ?_
              refine pw_goto (tgt := 31) C dX5_tenthsOfHearing_103 (by decide) ?_
              refine pw_sub [1, 2, 3, 4, 5, 0] rfl ?_
              exact ih _ _ h
            · refine pw_if_eq (tgt := 100) C dX5_tenthsOfHearing_76 (by decide) (fun c76 => ?_) (fun c76 => ?_)
              · have h := fn_pos c76 h
                refine pw_sub [1, 2, 3, 4, 5, 6] rfl ?_
                exact hk100 _ h
              · have h := fn_neg c76 h
                refine pw_aload_n C dX5_tenthsOfHearing_79 rfl 1 rfl ?_
                refine pw_get (v := .ref (gad G 4)) C iX5 (by decide) (pw_sh_0 _) rfl 2 (by decide) k1 rfl dX5_tenthsOfHearing_80 ?_
                refine pw_iload C dX5_tenthsOfHearing_83 6 rfl ?_
                obtain ⟨r85, m85, hc85, h⟩ := fn_bi_s h
                refine pw_callVNi (rest := []) C (pw_ltD pw_K4) (pw_shD pw_K4 _) rfl (ct_X2_sayings l C.2.2.2.2.2.2.2.2 pw_K4 hc85) ⟨va_cnB 1 C.2.2.2.2.1 gX5_tenthsOfHearing_X2_sayings_n174 rfl rfl rfl nm17 k3 (by decide +kernel) ⟨Nat.le_of_ble_eq_true rfl, Nat.le_of_ble_eq_true rfl⟩, k8, k9⟩ rfl rfl (Nat.le_of_ble_eq_true rfl) dX5_tenthsOfHearing_85 ?_
                refine pw_iload_n C dX5_tenthsOfHearing_88 rfl 3 rfl ?_
                refine pw_ishr C dX5_tenthsOfHearing_89 ?_
                refine pw_iconst (v := (1 : Int32)) C dX5_tenthsOfHearing_90 (by decide) ?_
                refine pw_iand C dX5_tenthsOfHearing_91 ?_
                refine pw_if_eq (tgt := 100) C dX5_tenthsOfHearing_92 (by decide) (fun c92 => ?_) (fun c92 => ?_)
                · have h := fn_pos c92 h
                  refine pw_sub [1, 2, 3, 4, 5, 6] rfl ?_
                  exact hk100 _ h
                · have h := fn_neg c92 h
                  refine pw_bipush (v := (10 : Int32)) C dX5_tenthsOfHearing_95 (by decide) ?_
                  refine pw_iload_n C dX5_tenthsOfHearing_97 rfl 4 rfl ?_
                  refine pw_isub C dX5_tenthsOfHearing_98 ?_
                  exact pw_iret C h dX5_tenthsOfHearing_99
          · refine fn_jn0_s (fun m71 => pw_Go p l e ({ frames := 2, cells := 0, slots := 0, locals := 46 }) s m (([.ref (gad G 0), .int a1, .int a2, .int a3] : List Value).toArray) below meth c (MQ below (va_Qi (fun (r1 : Int32) (u : pw_Mem) => r1 = r ∧ u = μ') (pw_B G) (gA G)) (([.ref (gad G 0), .int a1, .int a2, .int a3] : List Value).toArray) s 0 0 (gA G)) G 7 71 [(0, .ref (gad G 0)), (1, .int a1), (2, .int a2), (3, .int a3), (4, .int r23), (5, .int v5)] [] m71) h (fun m71 h => ?_) (fun k71 hk71 h => ?_)
            · refine pw_iconst (v := (0 : Int32)) C dX5_tenthsOfHearing_71 (by decide) ?_
              exact hk72 _ _ h
            · refine pw_icmp_ne (tgt := 71) C dX5_tenthsOfHearing_54 (by decide) (fun c54 => ?_) (fun c54 => ?_)
              · have h := fn_pos c54 h
                exact hk71 _ h
              · have h := fn_neg c54 h
                refine pw_iload C dX5_tenthsOfHearing_57 4 rfl ?_
                refine pw_iload C dX5_tenthsOfHearing_59 5 rfl ?_
                refine pw_ishr C dX5_tenthsOfHearing_61 ?_
                refine pw_iconst (v := (1 : Int32)) C dX5_tenthsOfHearing_62 (by decide) ?_
                refine pw_iand C dX5_tenthsOfHearing_63 ?_
                refine pw_if_ne (tgt := 71) C dX5_tenthsOfHearing_64 (by decide) (fun c64 => ?_) (fun c64 => ?_)
                · have h := fn_pos c64 h
                  exact hk71 _ h
                · have h := fn_neg c64 h
                  refine pw_iconst (v := (1 : Int32)) C dX5_tenthsOfHearing_67 (by decide) ?_
                  refine pw_goto (tgt := 72) C dX5_tenthsOfHearing_68 (by decide) ?_
                  exact hk72 _ _ h
    refine pw_sub [2, 3, 4, 5, 1, 0] rfl ?_
    refine L31 _ (fun m106 h => ?_) _ _ _ h
    refine pw_iconst (v := (0 : Int32)) C dX5_tenthsOfHearing_106 (by decide) ?_
    exact pw_iret C h dX5_tenthsOfHearing_107
  · have h := fn_neg c13 h
    refine pw_bipush (v := (10 : Int32)) C dX5_tenthsOfHearing_16 (by decide) ?_
    exact pw_iret C h dX5_tenthsOfHearing_18
set_option maxHeartbeats 4000000 in
set_option maxRecDepth 100000 in
theorem ct_X5_axles (l : Launch) {G : pw_G} (hG : pw_Ok G) {a1 : Int32} {a2 : Int32} {a3 : Int32} {a4 : Int32}  {μ μ' : pw_Mem} {r : Int32} (h : fn_X5_axles a1 a2 a3 a4 μ = some (r, μ')) : Met l yX5_axles wsX5_axles ({ frames := 3, cells := 0, slots := 0, locals := 72 }) (va_Pc [.ref (gad G 0), .int a1, .int a2, .int a3, .int a4] (pw_Pre G μ)) (va_Qi (fun (r1 : Int32) (u : pw_Mem) => r1 = r ∧ u = μ') (pw_B G) (gA G)) 0 0 (gA G) := by
  refine pw_met (lv := [(0, .ref (gad G 0)), (1, .int a1), (2, .int a2), (3, .int a3), (4, .int a4)]) (own := RX5) (cc := cX5_axles) (maxL := 7) (ret := some .int) hG rfl (by decide) rfl rfl (Nat.le_of_ble_eq_true rfl) ?_
  intro p e s m below meth c C
  have k1 := C.2.2.2.2.1 (.constant RX5 59 (-1000001)) (List.mem_cons_of_mem _ (List.mem_append_left _ (List.mem_append_left _ (List.mem_append_left _ (List.mem_of_getElem? (i := 0) rfl)))))
  unfold fn_X5_axles at h
  refine pw_aload_n C dX5_axles_0 rfl 0 rfl ?_
  refine pw_iload_n C dX5_axles_1 rfl 1 rfl ?_
  obtain ⟨r2, m2, hc2, h⟩ := fn_bi_s h
  refine pw_callVi (rest := []) C (by decide) (pw_sh_0 _) rfl (ct_X5_isStretch l C.2.2.2.2.2.2.2.2 hc2) (cwV 1 C.2.2.2.2.1 gX5_axles_X5_isStretch rfl rfl rfl (by decide +kernel) ⟨Nat.le_of_ble_eq_true rfl, Nat.le_of_ble_eq_true rfl⟩) rfl rfl (Nat.le_of_ble_eq_true rfl) dX5_axles_2 ?_
  refine pw_if_eq (tgt := 36) C dX5_axles_5 (by decide) (fun c5 => ?_) (fun c5 => ?_)
  · have h := fn_pos c5 h
    refine pw_ldc C k1 dX5_axles_36 ?_
    exact pw_iret C h dX5_axles_38
  · have h := fn_neg c5 h
    refine pw_aload_n C dX5_axles_8 rfl 0 rfl ?_
    refine pw_iload_n C dX5_axles_9 rfl 2 rfl ?_
    obtain ⟨r10, m10, hc10, h⟩ := fn_bi_s h
    refine pw_callVi (rest := []) C (by decide) (pw_sh_0 _) rfl (ct_X5_isWord l C.2.2.2.2.2.2.2.2 hc10) (cwV 1 C.2.2.2.2.1 gX5_axles_X5_isWord rfl rfl rfl (by decide +kernel) ⟨Nat.le_of_ble_eq_true rfl, Nat.le_of_ble_eq_true rfl⟩) rfl rfl (Nat.le_of_ble_eq_true rfl) dX5_axles_10 ?_
    refine pw_if_eq (tgt := 36) C dX5_axles_13 (by decide) (fun c13 => ?_) (fun c13 => ?_)
    · have h := fn_pos c13 h
      refine pw_ldc C k1 dX5_axles_36 ?_
      exact pw_iret C h dX5_axles_38
    · have h := fn_neg c13 h
      refine pw_iload_n C dX5_axles_16 rfl 3 rfl ?_
      refine pw_iconst (v := (0 : Int32)) C dX5_axles_17 (by decide) ?_
      refine pw_bipush (v := (10 : Int32)) C dX5_axles_18 (by decide) ?_
      obtain ⟨r20, m20, hc20, h⟩ := fn_bi_s h
      refine pw_callSi (rest := []) C (ct_X5_isWithin l C.2.2.2.2.2.2.2.2 hc20) (va_cwS 3 C.2.2.2.2.1 gX5_axles_X5_isWithin rfl rfl rfl (by decide +kernel) ⟨Nat.le_of_ble_eq_true rfl, Nat.le_of_ble_eq_true rfl⟩) rfl rfl (Nat.le_of_ble_eq_true rfl) dX5_axles_20 ?_
      refine pw_if_eq (tgt := 36) C dX5_axles_23 (by decide) (fun c23 => ?_) (fun c23 => ?_)
      · have h := fn_pos c23 h
        refine pw_ldc C k1 dX5_axles_36 ?_
        exact pw_iret C h dX5_axles_38
      · have h := fn_neg c23 h
        refine pw_iload C dX5_axles_26 4 rfl ?_
        refine pw_iconst (v := (0 : Int32)) C dX5_axles_28 (by decide) ?_
        refine pw_iconst (v := (1 : Int32)) C dX5_axles_29 (by decide) ?_
        obtain ⟨r30, m30, hc30, h⟩ := fn_bi_s h
        refine pw_callSi (rest := []) C (ct_X5_isWithin l C.2.2.2.2.2.2.2.2 hc30) (va_cwS 3 C.2.2.2.2.1 gX5_axles_X5_isWithin rfl rfl rfl (by decide +kernel) ⟨Nat.le_of_ble_eq_true rfl, Nat.le_of_ble_eq_true rfl⟩) rfl rfl (Nat.le_of_ble_eq_true rfl) dX5_axles_30 ?_
        refine pw_if_ne (tgt := 39) C dX5_axles_33 (by decide) (fun c33 => ?_) (fun c33 => ?_)
        · have h := fn_pos c33 h
          refine pw_aload_n C dX5_axles_39 rfl 0 rfl ?_
          refine pw_iload_n C dX5_axles_40 rfl 1 rfl ?_
          refine pw_iload_n C dX5_axles_41 rfl 2 rfl ?_
          refine pw_iload_n C dX5_axles_42 rfl 3 rfl ?_
          obtain ⟨r43, m43, hc43, h⟩ := fn_bi_s h
          refine pw_callVi (rest := []) C (by decide) (pw_sh_0 _) rfl (ct_X5_tenthsOfHearing l C.2.2.2.2.2.2.2.2 hc43) (cwV 3 C.2.2.2.2.1 gX5_axles_X5_tenthsOfHearing rfl rfl rfl (by decide +kernel) ⟨Nat.le_of_ble_eq_true rfl, Nat.le_of_ble_eq_true rfl⟩) rfl rfl (Nat.le_of_ble_eq_true rfl) dX5_axles_43 ?_
          refine pw_istore (lv' := [(5, .int r43), (0, .ref (gad G 0)), (1, .int a1), (2, .int a2), (3, .int a3), (4, .int a4)]) C dX5_axles_46 (by decide) rfl ?_
          refine pw_iload C dX5_axles_48 0 rfl ?_
          refine pw_bipush (v := (10 : Int32)) C dX5_axles_50 (by decide) ?_
          obtain ⟨r52, m52, hc52, h⟩ := fn_bi_s h
          refine pw_callSi (rest := []) C (ct_X5_commonDivisor l C.2.2.2.2.2.2.2.2 hc52) (va_cwS 2 C.2.2.2.2.1 gX5_axles_X5_commonDivisor rfl rfl rfl (by decide +kernel) ⟨Nat.le_of_ble_eq_true rfl, Nat.le_of_ble_eq_true rfl⟩) rfl rfl (Nat.le_of_ble_eq_true rfl) dX5_axles_52 ?_
          refine pw_istore (lv' := [(6, .int r52), (5, .int r43), (0, .ref (gad G 0)), (1, .int a1), (2, .int a2), (3, .int a3), (4, .int a4)]) C dX5_axles_55 (by decide) rfl ?_
          refine pw_iload C dX5_axles_57 6 rfl ?_
          refine pw_if_ne (tgt := 67) C dX5_axles_59 (by decide) (fun c59 => ?_) (fun c59 => ?_)
          · have h := fn_pos c59 h
            refine pw_bipush (v := (10 : Int32)) C dX5_axles_67 (by decide) ?_
            refine pw_iload C dX5_axles_69 0 rfl ?_
            obtain ⟨hz71, h⟩ := fn_nz_s h
            refine pw_idiv C dX5_axles_71 hz71 ?_
            exact pw_iret C h dX5_axles_72
          · have h := fn_neg c59 h
            refine pw_iload C dX5_axles_62 1 rfl ?_
            refine pw_goto (tgt := 69) C dX5_axles_64 (by decide) ?_
            refine pw_iload C dX5_axles_69 0 rfl ?_
            obtain ⟨hz71, h⟩ := fn_nz_s h
            refine pw_idiv C dX5_axles_71 hz71 ?_
            exact pw_iret C h dX5_axles_72
        · have h := fn_neg c33 h
          refine pw_ldc C k1 dX5_axles_36 ?_
          exact pw_iret C h dX5_axles_38
