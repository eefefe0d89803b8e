set_option maxHeartbeats 4000000 in
set_option maxRecDepth 100000 in
theorem ct_X5_putByDraw (l : Launch) {G : pw_G} (hG : pw_Ok G) {a1 : Int64}  {μ μ' : pw_Mem} (h : fn_X5_putByDraw a1 μ = some μ') : Met l yX5_putByDraw wsX5_putByDraw ({ frames := 0, cells := 0, slots := 0, locals := 0 }) (va_Pc [.ref (gad G 0), .long a1] (pw_Pre G μ)) (va_Qv (fun (u : pw_Mem) => u = μ') (pw_B G) (gA G)) 0 0 (gA G) := by
  refine pw_met (lv := [(0, .ref (gad G 0)), (1, .long a1)]) (own := RX5) (cc := cX5_putByDraw) (maxL := 4) (ret := none) hG rfl (by decide) rfl rfl (Nat.le_of_ble_eq_true rfl) ?_
  intro p e s m below meth c C
  have iX2 : ∀ w ∈ u_ws RX2 TX2 12, w ∈ wsX5_putByDraw := fun _ h => List.mem_cons_of_mem _ (List.mem_append_right _ (h))
  have iX5 : ∀ w ∈ u_ws RX5 TX5 10, w ∈ wsX5_putByDraw := fun _ h => List.mem_cons_of_mem _ (List.mem_append_left _ (List.mem_append_right _ (h)))
  have k1 := C.2.2.2.2.1 (.constantLong RX5 283 (3)) (List.mem_cons_of_mem _ (List.mem_append_left _ (List.mem_append_left _ (List.mem_of_getElem? (i := 0) rfl))))
  have k2 := C.2.2.2.2.1 (.fieldLink RX5 29 "PulpitRoads" "foretold" "LPulpitRoads$Road;") (List.mem_cons_of_mem _ (List.mem_append_left _ (List.mem_append_left _ (List.mem_of_getElem? (i := 1) rfl))))
  unfold fn_X5_putByDraw at h
  refine pw_lload_n C dX5_putByDraw_0 rfl 1 rfl ?_
  refine pw_ldc2 C k1 dX5_putByDraw_1 ?_
  obtain ⟨hz4, h⟩ := fn_nzl_s h
  refine pw_lrem C dX5_putByDraw_4 hz4 ?_
  refine pw_lconst (v := (0 : Int64)) C dX5_putByDraw_5 (by decide) ?_
  refine pw_lcmp C dX5_putByDraw_6 ?_
  refine pw_if_ne (tgt := 62) C dX5_putByDraw_7 (by decide) (fun c7 => ?_) (fun c7 => ?_)
  · have h := fn_pos c7 h
    exact pw_vret C h dX5_putByDraw_62
  · have h := fn_neg c7 h
    refine pw_aload_n C dX5_putByDraw_10 rfl 0 rfl ?_
    refine pw_get (v := .ref (gad G 11)) C iX5 (by decide) (pw_sh_0 _) rfl 3 (by decide) k2 rfl dX5_putByDraw_11 ?_
    refine pw_getN (v := .int (μ 11 5)) C iX2 (pw_ltD pw_K11) (pw_shD pw_K11 _) rfl 5 (by decide) 13 rfl rfl dX5_putByDraw_14 ?_
    refine pw_if_le (tgt := 62) C dX5_putByDraw_17 (by decide) (fun c17 => ?_) (fun c17 => ?_)
    · have h := fn_pos c17 h
      exact pw_vret C h dX5_putByDraw_62
    · have h := fn_neg c17 h
      refine pw_aload_n C dX5_putByDraw_20 rfl 0 rfl ?_
      refine pw_get (v := .ref (gad G 11)) C iX5 (by decide) (pw_sh_0 _) rfl 3 (by decide) k2 rfl dX5_putByDraw_21 ?_
      refine pw_getN (v := .int (μ 11 4)) C iX2 (pw_ltD pw_K11) (pw_shD pw_K11 _) rfl 4 (by decide) 11 rfl rfl dX5_putByDraw_24 ?_
      refine pw_if_le (tgt := 62) C dX5_putByDraw_27 (by decide) (fun c27 => ?_) (fun c27 => ?_)
      · have h := fn_pos c27 h
        exact pw_vret C h dX5_putByDraw_62
      · have h := fn_neg c27 h
        refine pw_lload_n C dX5_putByDraw_30 rfl 1 rfl ?_
        refine pw_aload_n C dX5_putByDraw_31 rfl 0 rfl ?_
        refine pw_get (v := .ref (gad G 11)) C iX5 (by decide) (pw_sh_0 _) rfl 3 (by decide) k2 rfl dX5_putByDraw_32 ?_
        refine pw_getN (v := .int (μ 11 5)) C iX2 (pw_ltD pw_K11) (pw_shD pw_K11 _) rfl 5 (by decide) 13 rfl rfl dX5_putByDraw_35 ?_
        refine pw_i2l C dX5_putByDraw_38 ?_
        obtain ⟨hz39, h⟩ := fn_nzl_s h
        refine pw_lrem C dX5_putByDraw_39 hz39 ?_
        refine pw_l2i C dX5_putByDraw_40 ?_
        refine pw_istore_n (lv' := [(3, .int ((a1 - a1 / ((μ 11 5)).toInt64 * ((μ 11 5)).toInt64)).toInt32), (0, .ref (gad G 0)), (1, .long a1)]) C dX5_putByDraw_41 rfl (by decide) rfl ?_
        refine pw_aload_n C dX5_putByDraw_42 rfl 1 rfl ?_
        refine pw_get (v := .ref (gad G 11)) C iX5 (by decide) (pw_sh_0 _) rfl 3 (by decide) k2 rfl dX5_putByDraw_43 ?_
        refine pw_getN (v := .ref (gad G (11 + 4))) C iX2 (pw_ltD pw_K11) (pw_shD pw_K11 _) rfl 9 (by decide) 24 rfl rfl dX5_putByDraw_46 ?_
        refine pw_iload_n C dX5_putByDraw_49 rfl 0 rfl ?_
        refine pw_lload_n C dX5_putByDraw_50 rfl 2 rfl ?_
        refine pw_aload_n C dX5_putByDraw_51 rfl 1 rfl ?_
        refine pw_get (v := .ref (gad G 11)) C iX5 (by decide) (pw_sh_0 _) rfl 3 (by decide) k2 rfl dX5_putByDraw_52 ?_
        refine pw_getN (v := .int (μ 11 4)) C iX2 (pw_ltD pw_K11) (pw_shD pw_K11 _) rfl 4 (by decide) 11 rfl rfl dX5_putByDraw_55 ?_
        refine pw_i2l C dX5_putByDraw_58 ?_
        obtain ⟨hz59, h⟩ := fn_nzl_s h
        refine pw_lrem C dX5_putByDraw_59 hz59 ?_
        refine pw_l2i C dX5_putByDraw_60 ?_
        obtain ⟨hi61, h⟩ := fn_ix_s h
        refine pw_iast C (pw_ltD6 pw_K11 4 (by decide)) (pw_shD4 pw_K11) hi61 dX5_putByDraw_61 ?_
        exact pw_vret C h dX5_putByDraw_62
set_option maxHeartbeats 4000000 in
set_option maxRecDepth 100000 in
theorem ct_X5_drawn (l : Launch) {G : pw_G} (hG : pw_Ok G) {a1 : Int32} {a2 : Int32} {a3 : Int32}  {μ μ' : pw_Mem} {r : Int32} (h : fn_X5_drawn a1 a2 a3 μ = some (r, μ')) : Met l yX5_drawn wsX5_drawn ({ frames := 6, cells := 0, slots := 0, locals := 134 }) (va_Pc [.ref (gad G 0), .int a1, .int a2, .int a3] (pw_Pre G μ)) (va_Qi (fun (r1 : Int32) (u : pw_Mem) => r1 = r ∧ u = μ') (pw_B G) (gA G)) 0 0 (gA G) := by
  refine pw_met (lv := [(0, .ref (gad G 0)), (1, .int a1), (2, .int a2), (3, .int a3)]) (own := RX5) (cc := cX5_drawn) (maxL := 7) (ret := some .int) hG rfl (by decide) rfl rfl (Nat.le_of_ble_eq_true rfl) ?_
  intro p e s m below meth c C
  have iX2 : ∀ w ∈ u_ws RX2 TX2 12, w ∈ wsX5_drawn := fun _ h => List.mem_cons_of_mem _ (List.mem_append_right _ (h))
  have iX5 : ∀ w ∈ u_ws RX5 TX5 10, w ∈ wsX5_drawn := fun _ h => List.mem_cons_of_mem _ (List.mem_append_left _ (List.mem_append_right _ (h)))
  have k1 := C.2.2.2.2.1 (.fieldLink RX5 25 "PulpitRoads" "now" "LPulpitRoads$Road;") (List.mem_cons_of_mem _ (List.mem_append_left _ (List.mem_append_left _ (List.mem_append_left _ (List.mem_of_getElem? (i := 0) rfl)))))
  have k17 := C.2.2.2.2.1 (.initialized RX2) (List.mem_cons_of_mem _ (List.mem_append_left _ (List.mem_append_left _ (List.mem_append_left _ (List.mem_of_getElem? (i := 16) rfl)))))
  have k2 := C.2.2.2.2.1 (.constant RX5 131 (-1000002)) (List.mem_cons_of_mem _ (List.mem_append_left _ (List.mem_append_left _ (List.mem_append_left _ (List.mem_of_getElem? (i := 1) rfl)))))
  have k3 := C.2.2.2.2.1 (.constant RX5 237 (999999)) (List.mem_cons_of_mem _ (List.mem_append_left _ (List.mem_append_left _ (List.mem_append_left _ (List.mem_of_getElem? (i := 2) rfl)))))
  have k35 := C.2.2.2.2.1 (.instanceMethod yX2_goHour) (List.mem_cons_of_mem _ (List.mem_append_left _ (List.mem_append_left _ (List.mem_append_right _ (List.mem_append_left _ (List.mem_of_getElem? (i := 10) rfl))))))
  have k36 := C.2.2.2.2.1 (.selects RX2 yX2_goHour yX2_goHour) (List.mem_cons_of_mem _ (List.mem_append_left _ (List.mem_append_left _ (List.mem_append_right _ (List.mem_append_left _ (List.mem_of_getElem? (i := 11) rfl))))))
  have k4 := C.2.2.2.2.1 (.constant RX5 59 (-1000001)) (List.mem_cons_of_mem _ (List.mem_append_left _ (List.mem_append_left _ (List.mem_append_left _ (List.mem_of_getElem? (i := 3) rfl)))))
  have k5 := C.2.2.2.2.1 (.constantLong RX5 238 (16807)) (List.mem_cons_of_mem _ (List.mem_append_left _ (List.mem_append_left _ (List.mem_append_left _ (List.mem_of_getElem? (i := 4) rfl)))))
  have k6 := C.2.2.2.2.1 (.constantLong RX5 240 (2147483647)) (List.mem_cons_of_mem _ (List.mem_append_left _ (List.mem_append_left _ (List.mem_append_left _ (List.mem_of_getElem? (i := 5) rfl)))))
  have k7 := C.2.2.2.2.1 (.fieldLink RX5 29 "PulpitRoads" "foretold" "LPulpitRoads$Road;") (List.mem_cons_of_mem _ (List.mem_append_left _ (List.mem_append_left _ (List.mem_append_left _ (List.mem_of_getElem? (i := 6) rfl)))))
  have k76 := C.2.2.2.2.1 (.instanceMethod yX2_wordsHeard) (List.mem_cons_of_mem _ (List.mem_append_left _ (List.mem_append_left _ (List.mem_append_right _ (List.mem_append_right _ (List.mem_append_right _ (List.mem_of_getElem? (i := 3) rfl)))))))
  have k77 := C.2.2.2.2.1 (.selects RX2 yX2_wordsHeard yX2_wordsHeard) (List.mem_cons_of_mem _ (List.mem_append_left _ (List.mem_append_left _ (List.mem_append_right _ (List.mem_append_right _ (List.mem_append_right _ (List.mem_of_getElem? (i := 4) rfl)))))))
  have k86 := C.2.2.2.2.1 (.instanceMethod yX2_wholeGates) (List.mem_cons_of_mem _ (List.mem_append_left _ (List.mem_append_left _ (List.mem_append_right _ (List.mem_append_right _ (List.mem_append_right _ (List.mem_of_getElem? (i := 13) rfl)))))))
  have k87 := C.2.2.2.2.1 (.selects RX2 yX2_wholeGates yX2_wholeGates) (List.mem_cons_of_mem _ (List.mem_append_left _ (List.mem_append_left _ (List.mem_append_right _ (List.mem_append_right _ (List.mem_append_right _ (List.mem_of_getElem? (i := 14) rfl)))))))
  have nm13 : va_Nw (.methodLinkNest RX5 138 yX2_goHour "PulpitRoads") s := C.2.2.2.2.2.2.2.1.2.1.2 ("PulpitRoads", 138, ⟨"PulpitRoads$Road", "goHour", "()V"⟩, "PulpitRoads") (List.mem_of_getElem? (i := 13) rfl)
  have nm14 : va_Nw (.methodLinkNest RX5 141 yX2_wholeGates "PulpitRoads") s := C.2.2.2.2.2.2.2.1.2.1.2 ("PulpitRoads", 141, ⟨"PulpitRoads$Road", "wholeGates", "()I"⟩, "PulpitRoads") (List.mem_of_getElem? (i := 14) rfl)
  have nm24 : va_Nw (.methodLinkNest RX5 246 yX2_wordsHeard "PulpitRoads") s := C.2.2.2.2.2.2.2.1.2.1.2 ("PulpitRoads", 246, ⟨"PulpitRoads$Road", "wordsHeard", "()I"⟩, "PulpitRoads") (List.mem_of_getElem? (i := 24) rfl)
  unfold fn_X5_drawn at h
  refine pw_aload_n C dX5_drawn_0 rfl 0 rfl ?_
  refine pw_get (v := .ref (gad G 4)) C iX5 (by decide) (pw_sh_0 _) rfl 2 (by decide) k1 rfl dX5_drawn_1 ?_
  refine pw_getN (v := .int (μ 4 0)) C iX2 (pw_ltD pw_K4) (pw_shD pw_K4 _) rfl 0 (by decide) 3 rfl rfl dX5_drawn_4 ?_
  refine pw_if_ne (tgt := 13) C dX5_drawn_7 (by decide) (fun c7 => ?_) (fun c7 => ?_)
  · have h := fn_pos c7 h
    refine pw_iload_n C dX5_drawn_13 rfl 1 rfl ?_
    refine pw_iconst (v := (0 : Int32)) C dX5_drawn_14 (by decide) ?_
    refine pw_bipush (v := (60 : Int32)) C dX5_drawn_15 (by decide) ?_
    obtain ⟨r17, m17, hc17, h⟩ := fn_bi_s h
    refine pw_callSi (rest := []) C (ct_X5_isWithin l C.2.2.2.2.2.2.2.2 hc17) (va_cwS 3 C.2.2.2.2.1 gX5_drawn_X5_isWithin rfl rfl rfl (by decide +kernel) ⟨Nat.le_of_ble_eq_true rfl, Nat.le_of_ble_eq_true rfl⟩) rfl rfl (Nat.le_of_ble_eq_true rfl) dX5_drawn_17 ?_
    refine pw_if_eq (tgt := 42) C dX5_drawn_20 (by decide) (fun c20 => ?_) (fun c20 => ?_)
    · have h := fn_pos c20 h
      refine pw_ldc C k4 dX5_drawn_42 ?_
      exact pw_iret C h dX5_drawn_44
    · have h := fn_neg c20 h
      refine pw_iload_n C dX5_drawn_23 rfl 2 rfl ?_
      refine pw_iconst (v := (1 : Int32)) C dX5_drawn_24 (by decide) ?_
      refine pw_ldc C k3 dX5_drawn_25 ?_
      obtain ⟨r27, m27, hc27, h⟩ := fn_bi_s h
      refine pw_callSi (rest := []) C (ct_X5_isWithin l C.2.2.2.2.2.2.2.2 hc27) (va_cwS 3 C.2.2.2.2.1 gX5_drawn_X5_isWithin rfl rfl rfl (by decide +kernel) ⟨Nat.le_of_ble_eq_true rfl, Nat.le_of_ble_eq_true rfl⟩) rfl rfl (Nat.le_of_ble_eq_true rfl) dX5_drawn_27 ?_
      refine pw_if_eq (tgt := 42) C dX5_drawn_30 (by decide) (fun c30 => ?_) (fun c30 => ?_)
      · have h := fn_pos c30 h
        refine pw_ldc C k4 dX5_drawn_42 ?_
        exact pw_iret C h dX5_drawn_44
      · have h := fn_neg c30 h
        refine pw_iload_n C dX5_drawn_33 rfl 3 rfl ?_
        refine pw_iconst (v := (0 : Int32)) C dX5_drawn_34 (by decide) ?_
        refine pw_iconst (v := (1 : Int32)) C dX5_drawn_35 (by decide) ?_
        obtain ⟨r36, m36, hc36, h⟩ := fn_bi_s h
        refine pw_callSi (rest := []) C (ct_X5_isWithin l C.2.2.2.2.2.2.2.2 hc36) (va_cwS 3 C.2.2.2.2.1 gX5_drawn_X5_isWithin rfl rfl rfl (by decide +kernel) ⟨Nat.le_of_ble_eq_true rfl, Nat.le_of_ble_eq_true rfl⟩) rfl rfl (Nat.le_of_ble_eq_true rfl) dX5_drawn_36 ?_
        refine pw_if_ne (tgt := 45) C dX5_drawn_39 (by decide) (fun c39 => ?_) (fun c39 => ?_)
        · have h := fn_pos c39 h
          refine pw_aload_n C dX5_drawn_45 rfl 0 rfl ?_
          refine pw_iconst (v := (0 : Int32)) C dX5_drawn_46 (by decide) ?_
          obtain ⟨m47, hc47, h⟩ := fn_bv_s h
          refine pw_callVv (rest := []) C (by decide) (pw_sh_0 _) rfl (ct_X5_foretell l C.2.2.2.2.2.2.2.2 hc47) (cwV 1 C.2.2.2.2.1 gX5_drawn_X5_foretell rfl rfl rfl (by decide +kernel) ⟨Nat.le_of_ble_eq_true rfl, Nat.le_of_ble_eq_true rfl⟩) rfl rfl (Nat.le_of_ble_eq_true rfl) dX5_drawn_47 ?_
          refine pw_iload_n C dX5_drawn_50 rfl 2 rfl ?_
          refine pw_i2l C dX5_drawn_51 ?_
          refine pw_lstore (lv' := [(4, .long (a2).toInt64), (0, .ref (gad G 0)), (1, .int a1), (2, .int a2), (3, .int a3)]) C dX5_drawn_52 (by decide) rfl ?_
          refine pw_iconst (v := (0 : Int32)) C dX5_drawn_54 (by decide) ?_
          refine pw_istore (lv' := [(6, .int (0 : Int32)), (4, .long (a2).toInt64), (0, .ref (gad G 0)), (1, .int a1), (2, .int a2), (3, .int a3)]) C dX5_drawn_55 (by decide) rfl ?_
          have L57 : ∀ (k : pw_Mem → Option (Int32 × pw_Mem)) (hk : ∀  (m1 : pw_Mem), k m1 = some (r, μ') → pw_Go p l e ({ frames := 6, cells := 0, slots := 0, locals := 134 }) s m (([.ref (gad G 0), .int a1, .int a2, .int a3] : List Value).toArray) below meth c (MQ below (va_Qi (fun (r1 : Int32) (u : pw_Mem) => r1 = r ∧ u = μ') (pw_B G) (gA G)) (([.ref (gad G 0), .int a1, .int a2, .int a3] : List Value).toArray) s 0 0 (gA G)) G 7 94 [(0, .ref (gad G 0)), (3, .int a3)] [] m1) (n : Nat) (v4 : Int64) (v6 : Int32) (m1 : pw_Mem), fl_X5_drawn_57 k a1 a3 n v4 v6 m1 = some (r, μ') → pw_Go p l e ({ frames := 6, cells := 0, slots := 0, locals := 134 }) s m (([.ref (gad G 0), .int a1, .int a2, .int a3] : List Value).toArray) below meth c (MQ below (va_Qi (fun (r1 : Int32) (u : pw_Mem) => r1 = r ∧ u = μ') (pw_B G) (gA G)) (([.ref (gad G 0), .int a1, .int a2, .int a3] : List Value).toArray) s 0 0 (gA G)) G 7 57 [(0, .ref (gad G 0)), (1, .int a1), (3, .int a3), (4, .long v4), (6, .int v6)] [] m1 := by
            intro k hk n
            induction n with
            | zero => intro v4 v6 m1 h; exact nomatch (show (none : Option (Int32 × pw_Mem)) = some _ from h)
            | succ n ih =>
              intro v4 v6 m1 h
              rw [fl_X5_drawn_57] at h
              refine pw_iload C dX5_drawn_57 4 rfl ?_
              refine pw_iload_n C dX5_drawn_59 rfl 1 rfl ?_
              refine pw_icmp_ge (tgt := 94) C dX5_drawn_60 (by decide) (fun c60 => ?_) (fun c60 => ?_)
              · have h := fn_pos c60 h
                refine pw_sub [0, 2] rfl ?_
                exact hk _ h
              · have h := fn_neg c60 h
                refine pw_lload C dX5_drawn_63 3 rfl ?_
                refine pw_ldc2 C k5 dX5_drawn_65 ?_
                refine pw_lmul C dX5_drawn_68 ?_
                refine pw_ldc2 C k6 dX5_drawn_69 ?_
                obtain ⟨hz72, h⟩ := fn_nzl_s h
                refine pw_lrem C dX5_drawn_72 hz72 ?_
                refine pw_lstore (lv' := [(4, .long ((v4 * (16807 : Int64)) - (v4 * (16807 : Int64)) / (2147483647 : Int64) * (2147483647 : Int64))), (0, .ref (gad G 0)), (1, .int a1), (3, .int a3), (6, .int v6)]) C dX5_drawn_73 (by decide) rfl ?_
                refine pw_aload_n C dX5_drawn_75 rfl 1 rfl ?_
                refine pw_lload C dX5_drawn_76 0 rfl ?_
                obtain ⟨m78, hc78, h⟩ := fn_bv_s h
                refine pw_callVv (rest := []) C (by decide) (pw_sh_0 _) rfl (ct_X5_putByDraw l C.2.2.2.2.2.2.2.2 hc78) (cwV 1 C.2.2.2.2.1 gX5_drawn_X5_putByDraw rfl rfl rfl (by decide +kernel) ⟨Nat.le_of_ble_eq_true rfl, Nat.le_of_ble_eq_true rfl⟩) rfl rfl (Nat.le_of_ble_eq_true rfl) dX5_drawn_78 ?_
                refine pw_aload_n C dX5_drawn_81 rfl 1 rfl ?_
                refine pw_get (v := .ref (gad G 11)) C iX5 (by decide) (pw_sh_0 _) rfl 3 (by decide) k7 rfl dX5_drawn_82 ?_
                obtain ⟨m85, hc85, h⟩ := fn_bv_s h
                refine pw_callVNv (rest := []) C (pw_ltD pw_K11) (pw_shD pw_K11 _) rfl (ct_X2_goHour l C.2.2.2.2.2.2.2.2 pw_K11 hc85) ⟨va_cnB 0 C.2.2.2.2.1 gX5_drawn_X2_goHour_n138 rfl rfl rfl nm13 k17 (by decide +kernel) ⟨Nat.le_of_ble_eq_true rfl, Nat.le_of_ble_eq_true rfl⟩, k35, k36⟩ rfl rfl (Nat.le_of_ble_eq_true rfl) dX5_drawn_85 ?_
                refine pw_iinc (v := (v6 + 1)) (lv' := [(6, .int (v6 + 1)), (4, .long ((v4 * (16807 : Int64)) - (v4 * (16807 : Int64)) / (2147483647 : Int64) * (2147483647 : Int64))), (0, .ref (gad G 0)), (1, .int a1), (3, .int a3)]) C dX5_drawn_88 (q := 4) rfl rfl (by decide) rfl ?_
                refine pw_goto (tgt := 57) C dX5_drawn_91 (by decide) ?_
                refine pw_sub [2, 3, 4, 1, 0] rfl ?_
                exact ih _ _ _ h
          refine pw_sub [2, 3, 5, 1, 0] rfl ?_
          refine L57 _ (fun m94 h => ?_) _ _ _ _ h
          refine pw_iload_n C dX5_drawn_94 rfl 1 rfl ?_
          refine pw_if_ne (tgt := 108) C dX5_drawn_95 (by decide) (fun c95 => ?_) (fun c95 => ?_)
          · have h := fn_pos c95 h
            refine pw_aload_n C dX5_drawn_108 rfl 0 rfl ?_
            refine pw_get (v := .ref (gad G 11)) C iX5 (by decide) (pw_sh_0 _) rfl 3 (by decide) k7 rfl dX5_drawn_109 ?_
            obtain ⟨r112, m112, hc112, h⟩ := fn_bi_s h
            refine pw_callVNi (rest := []) C (pw_ltD pw_K11) (pw_shD pw_K11 _) rfl (ct_X2_wholeGates l C.2.2.2.2.2.2.2.2 pw_K11 hc112) ⟨va_cnB 0 C.2.2.2.2.1 gX5_drawn_X2_wholeGates_n141 rfl rfl rfl nm14 k17 (by decide +kernel) ⟨Nat.le_of_ble_eq_true rfl, Nat.le_of_ble_eq_true rfl⟩, k86, k87⟩ rfl rfl (Nat.le_of_ble_eq_true rfl) dX5_drawn_112 ?_
            obtain ⟨r115, m115, hc115, h⟩ := fn_bi_s h
            refine pw_callSi (rest := []) C (ct_J6_bitCount_0f7a4 l C.2.2.2.2.2.2.2.2 hc115) (va_cwS 1 C.2.2.2.2.1 gX5_drawn_J6_bitCount_0f7a4 rfl rfl rfl (by decide +kernel) ⟨Nat.le_of_ble_eq_true rfl, Nat.le_of_ble_eq_true rfl⟩) rfl rfl (Nat.le_of_ble_eq_true rfl) dX5_drawn_115 ?_
            exact pw_iret C h dX5_drawn_118
          · have h := fn_neg c95 h
            refine pw_aload_n C dX5_drawn_98 rfl 0 rfl ?_
            refine pw_get (v := .ref (gad G 11)) C iX5 (by decide) (pw_sh_0 _) rfl 3 (by decide) k7 rfl dX5_drawn_99 ?_
            obtain ⟨r102, m102, hc102, h⟩ := fn_bi_s h
            refine pw_callVNi (rest := []) C (pw_ltD pw_K11) (pw_shD pw_K11 _) rfl (ct_X2_wordsHeard l C.2.2.2.2.2.2.2.2 pw_K11 hc102) ⟨va_cnB 0 C.2.2.2.2.1 gX5_drawn_X2_wordsHeard_n246 rfl rfl rfl nm24 k17 (by decide +kernel) ⟨Nat.le_of_ble_eq_true rfl, Nat.le_of_ble_eq_true rfl⟩, k76, k77⟩ rfl rfl (Nat.le_of_ble_eq_true rfl) dX5_drawn_102 ?_
            refine pw_goto (tgt := 118) C dX5_drawn_105 (by decide) ?_
            exact pw_iret C h dX5_drawn_118
        · have h := fn_neg c39 h
          refine pw_ldc C k4 dX5_drawn_42 ?_
          exact pw_iret C h dX5_drawn_44
  · have h := fn_neg c7 h
    refine pw_ldc C k2 dX5_drawn_10 ?_
    exact pw_iret C h dX5_drawn_12
set_option maxHeartbeats 4000000 in
set_option maxRecDepth 100000 in
theorem ct_X5_image (l : Launch) {G : pw_G} (hG : pw_Ok G) {a1 : Int32}  {μ μ' : pw_Mem} {r : Int32} (h : fn_X5_image a1 μ = some (r, μ')) : Met l yX5_image wsX5_image ({ frames := 1, cells := 0, slots := 0, locals := 22 }) (va_Pc [.ref (gad G 0), .int a1] (pw_Pre G μ)) (va_Qi (fun (r1 : Int32) (u : pw_Mem) => r1 = r ∧ u = μ') (pw_B G) (gA G)) 0 0 (gA G) := by
  refine pw_met (lv := [(0, .ref (gad G 0)), (1, .int a1)]) (own := RX5) (cc := cX5_image) (maxL := 2) (ret := some .int) hG rfl (by decide) rfl rfl (Nat.le_of_ble_eq_true rfl) ?_
  intro p e s m below meth c C
  have iX2 : ∀ w ∈ u_ws RX2 TX2 12, w ∈ wsX5_image := fun _ h => List.mem_cons_of_mem _ (List.mem_append_right _ (h))
  have iX5 : ∀ w ∈ u_ws RX5 TX5 10, w ∈ wsX5_image := fun _ h => List.mem_cons_of_mem _ (List.mem_append_left _ (List.mem_append_right _ (h)))
  have k1 := C.2.2.2.2.1 (.constant RX5 59 (-1000001)) (List.mem_cons_of_mem _ (List.mem_append_left _ (List.mem_append_left _ (List.mem_of_getElem? (i := 0) rfl))))
  have k10 := C.2.2.2.2.1 (.initialized RX2) (List.mem_cons_of_mem _ (List.mem_append_left _ (List.mem_append_left _ (List.mem_of_getElem? (i := 9) rfl))))
  have k11 := C.2.2.2.2.1 (.selects RX2 yX2_take yX2_take) (List.mem_cons_of_mem _ (List.mem_append_left _ (List.mem_append_left _ (List.mem_of_getElem? (i := 10) rfl))))
  have k2 := C.2.2.2.2.1 (.fieldLink RX5 25 "PulpitRoads" "now" "LPulpitRoads$Road;") (List.mem_cons_of_mem _ (List.mem_append_left _ (List.mem_append_left _ (List.mem_of_getElem? (i := 1) rfl))))
  have k3 := C.2.2.2.2.1 (.constant RX5 131 (-1000002)) (List.mem_cons_of_mem _ (List.mem_append_left _ (List.mem_append_left _ (List.mem_of_getElem? (i := 2) rfl))))
  have k4 := C.2.2.2.2.1 (.fieldLink RX5 36 "PulpitRoads" "images" "[LPulpitRoads$Road;") (List.mem_cons_of_mem _ (List.mem_append_left _ (List.mem_append_left _ (List.mem_of_getElem? (i := 3) rfl))))
  have k9 := C.2.2.2.2.1 (.instanceMethod yX2_take) (List.mem_cons_of_mem _ (List.mem_append_left _ (List.mem_append_left _ (List.mem_of_getElem? (i := 8) rfl))))
  have nm11 : va_Nw (.methodLinkNest RX5 118 yX2_take "PulpitRoads") s := C.2.2.2.2.2.2.2.1.2.1.2 ("PulpitRoads", 118, ⟨"PulpitRoads$Road", "take", "(LPulpitRoads$Road;)V"⟩, "PulpitRoads") (List.mem_of_getElem? (i := 11) rfl)
  unfold fn_X5_image at h
  refine pw_iload_n C dX5_image_0 rfl 1 rfl ?_
  refine pw_iconst (v := (0 : Int32)) C dX5_image_1 (by decide) ?_
  refine pw_iconst (v := (1 : Int32)) C dX5_image_2 (by decide) ?_
  obtain ⟨r3, m3, hc3, h⟩ := fn_bi_s h
  refine pw_callSi (rest := []) C (ct_X5_isWithin l C.2.2.2.2.2.2.2.2 hc3) (va_cwS 3 C.2.2.2.2.1 gX5_image_X5_isWithin rfl rfl rfl (by decide +kernel) ⟨Nat.le_of_ble_eq_true rfl, Nat.le_of_ble_eq_true rfl⟩) rfl rfl (Nat.le_of_ble_eq_true rfl) dX5_image_3 ?_
  refine pw_if_ne (tgt := 12) C dX5_image_6 (by decide) (fun c6 => ?_) (fun c6 => ?_)
  · have h := fn_pos c6 h
    refine pw_aload_n C dX5_image_12 rfl 0 rfl ?_
    refine pw_get (v := .ref (gad G 4)) C iX5 (by decide) (pw_sh_0 _) rfl 2 (by decide) k2 rfl dX5_image_13 ?_
    refine pw_getN (v := .int (m3 4 0)) C iX2 (pw_ltD pw_K4) (pw_shD pw_K4 _) rfl 0 (by decide) 3 rfl rfl dX5_image_16 ?_
    refine pw_if_ne (tgt := 25) C dX5_image_19 (by decide) (fun c19 => ?_) (fun c19 => ?_)
    · have h := fn_pos c19 h
      refine pw_aload_n C dX5_image_25 rfl 0 rfl ?_
      refine pw_get (v := .ref (gad G 19)) C iX5 (by decide) (pw_sh_0 _) rfl 5 (by decide) k4 rfl dX5_image_26 ?_
      refine pw_iload_n C dX5_image_29 rfl 1 rfl ?_
      obtain ⟨hi30, h⟩ := fn_ix_s h
      refine pw_aldD C hi30 dX5_image_30 ?_
      refine pw_aload_n C dX5_image_31 rfl 0 rfl ?_
      refine pw_get (v := .ref (gad G 4)) C iX5 (by decide) (pw_sh_0 _) rfl 2 (by decide) k2 rfl dX5_image_32 ?_
      obtain ⟨m35, hc35, h⟩ := fn_bv_s h
      refine pw_callVNv (rest := []) C (pw_ltD (pw_KD_of hi30)) (pw_shD (pw_KD_of hi30) _) rfl (ct_X2_take l C.2.2.2.2.2.2.2.2 (pw_KD_of hi30) pw_K4 hc35) ⟨va_cnB 1 C.2.2.2.2.1 gX5_image_X2_take_n118 rfl rfl rfl nm11 k10 (by decide +kernel) ⟨Nat.le_of_ble_eq_true rfl, Nat.le_of_ble_eq_true rfl⟩, k9, k11⟩ rfl rfl (Nat.le_of_ble_eq_true rfl) dX5_image_35 ?_
      refine pw_iconst (v := (1 : Int32)) C dX5_image_38 (by decide) ?_
      exact pw_iret C h dX5_image_39
    · have h := fn_neg c19 h
      refine pw_ldc C k3 dX5_image_22 ?_
      exact pw_iret C h dX5_image_24
  · have h := fn_neg c6 h
    refine pw_ldc C k1 dX5_image_9 ?_
    exact pw_iret C h dX5_image_11
set_option maxHeartbeats 4000000 in
set_option maxRecDepth 100000 in
theorem ct_X5_restore (l : Launch) {G : pw_G} (hG : pw_Ok G) {a1 : Int32}  {μ μ' : pw_Mem} {r : Int32} (h : fn_X5_restore a1 μ = some (r, μ')) : Met l yX5_restore wsX5_restore ({ frames := 1, cells := 0, slots := 0, locals := 22 }) (va_Pc [.ref (gad G 0), .int a1] (pw_Pre G μ)) (va_Qi (fun (r1 : Int32) (u : pw_Mem) => r1 = r ∧ u = μ') (pw_B G) (gA G)) 0 0 (gA G) := by
  refine pw_met (lv := [(0, .ref (gad G 0)), (1, .int a1)]) (own := RX5) (cc := cX5_restore) (maxL := 2) (ret := some .int) hG rfl (by decide) rfl rfl (Nat.le_of_ble_eq_true rfl) ?_
  intro p e s m below meth c C
  have iX0 : ∀ w ∈ u_ws RX0 TX0 3, w ∈ wsX5_restore := fun _ h => List.mem_cons_of_mem _ (List.mem_append_right _ (h))
  have iX2 : ∀ w ∈ u_ws RX2 TX2 12, w ∈ wsX5_restore := fun _ h => List.mem_cons_of_mem _ (List.mem_append_left _ (List.mem_append_right _ (h)))
  have iX5 : ∀ w ∈ u_ws RX5 TX5 10, w ∈ wsX5_restore := fun _ h => List.mem_cons_of_mem _ (List.mem_append_left _ (List.mem_append_left _ (List.mem_append_right _ (h))))
  have k1 := C.2.2.2.2.1 (.constant RX5 59 (-1000001)) (List.mem_cons_of_mem _ (List.mem_append_left _ (List.mem_append_left _ (List.mem_append_left _ (List.mem_of_getElem? (i := 0) rfl)))))
  have k10 := C.2.2.2.2.1 (.instanceMethod yX2_take) (List.mem_cons_of_mem _ (List.mem_append_left _ (List.mem_append_left _ (List.mem_append_left _ (List.mem_of_getElem? (i := 9) rfl)))))
  have k11 := C.2.2.2.2.1 (.initialized RX2) (List.mem_cons_of_mem _ (List.mem_append_left _ (List.mem_append_left _ (List.mem_append_left _ (List.mem_of_getElem? (i := 10) rfl)))))
  have k12 := C.2.2.2.2.1 (.selects RX2 yX2_take yX2_take) (List.mem_cons_of_mem _ (List.mem_append_left _ (List.mem_append_left _ (List.mem_append_left _ (List.mem_of_getElem? (i := 11) rfl)))))
  have k2 := C.2.2.2.2.1 (.fieldLink RX5 36 "PulpitRoads" "images" "[LPulpitRoads$Road;") (List.mem_cons_of_mem _ (List.mem_append_left _ (List.mem_append_left _ (List.mem_append_left _ (List.mem_of_getElem? (i := 1) rfl)))))
  have k3 := C.2.2.2.2.1 (.constant RX5 131 (-1000002)) (List.mem_cons_of_mem _ (List.mem_append_left _ (List.mem_append_left _ (List.mem_append_left _ (List.mem_of_getElem? (i := 2) rfl)))))
  have k4 := C.2.2.2.2.1 (.fieldLink RX5 25 "PulpitRoads" "now" "LPulpitRoads$Road;") (List.mem_cons_of_mem _ (List.mem_append_left _ (List.mem_append_left _ (List.mem_append_left _ (List.mem_of_getElem? (i := 3) rfl)))))
  have k5 := C.2.2.2.2.1 (.fieldLink RX5 43 "PulpitRoads" "acts" "LPulpitRoads$Acts;") (List.mem_cons_of_mem _ (List.mem_append_left _ (List.mem_append_left _ (List.mem_append_left _ (List.mem_of_getElem? (i := 4) rfl)))))
  have nm11 : va_Nw (.methodLinkNest RX5 118 yX2_take "PulpitRoads") s := C.2.2.2.2.2.2.2.1.2.1.2 ("PulpitRoads", 118, ⟨"PulpitRoads$Road", "take", "(LPulpitRoads$Road;)V"⟩, "PulpitRoads") (List.mem_of_getElem? (i := 11) rfl)
  unfold fn_X5_restore at h
  refine pw_iload_n C dX5_restore_0 rfl 1 rfl ?_
  refine pw_iconst (v := (0 : Int32)) C dX5_restore_1 (by decide) ?_
  refine pw_iconst (v := (1 : Int32)) C dX5_restore_2 (by decide) ?_
  obtain ⟨r3, m3, hc3, h⟩ := fn_bi_s h
  refine pw_callSi (rest := []) C (ct_X5_isWithin l C.2.2.2.2.2.2.2.2 hc3) (va_cwS 3 C.2.2.2.2.1 gX5_restore_X5_isWithin rfl rfl rfl (by decide +kernel) ⟨Nat.le_of_ble_eq_true rfl, Nat.le_of_ble_eq_true rfl⟩) rfl rfl (Nat.le_of_ble_eq_true rfl) dX5_restore_3 ?_
  refine pw_if_ne (tgt := 12) C dX5_restore_6 (by decide) (fun c6 => ?_) (fun c6 => ?_)
  · have h := fn_pos c6 h
    refine pw_aload_n C dX5_restore_12 rfl 0 rfl ?_
    refine pw_get (v := .ref (gad G 19)) C iX5 (by decide) (pw_sh_0 _) rfl 5 (by decide) k2 rfl dX5_restore_13 ?_
    refine pw_iload_n C dX5_restore_16 rfl 1 rfl ?_
    obtain ⟨hi17, h⟩ := fn_ix_s h
    refine pw_aldD C hi17 dX5_restore_17 ?_
    refine pw_getN (v := .int (m3 (40 + 7 * (a1).toNatClampNeg) 0)) C iX2 (pw_ltD (pw_KD_of hi17)) (pw_shD (pw_KD_of hi17) _) rfl 0 (by decide) 3 rfl rfl dX5_restore_18 ?_
    refine pw_if_ne (tgt := 27) C dX5_restore_21 (by decide) (fun c21 => ?_) (fun c21 => ?_)
    · have h := fn_pos c21 h
      refine pw_aload_n C dX5_restore_27 rfl 0 rfl ?_
      refine pw_get (v := .ref (gad G 4)) C iX5 (by decide) (pw_sh_0 _) rfl 2 (by decide) k4 rfl dX5_restore_28 ?_
      refine pw_aload_n C dX5_restore_31 rfl 0 rfl ?_
      refine pw_get (v := .ref (gad G 19)) C iX5 (by decide) (pw_sh_0 _) rfl 5 (by decide) k2 rfl dX5_restore_32 ?_
      refine pw_iload_n C dX5_restore_35 rfl 1 rfl ?_
      obtain ⟨hi36, h⟩ := fn_ix_s h
      refine pw_aldD C hi36 dX5_restore_36 ?_
      obtain ⟨m37, hc37, h⟩ := fn_bv_s h
      refine pw_callVNv (rest := []) C (pw_ltD pw_K4) (pw_shD pw_K4 _) rfl (ct_X2_take l C.2.2.2.2.2.2.2.2 pw_K4 (pw_KD_of hi36) hc37) ⟨va_cnB 1 C.2.2.2.2.1 gX5_restore_X2_take_n118 rfl rfl rfl nm11 k11 (by decide +kernel) ⟨Nat.le_of_ble_eq_true rfl, Nat.le_of_ble_eq_true rfl⟩, k10, k12⟩ rfl rfl (Nat.le_of_ble_eq_true rfl) dX5_restore_37 ?_
      refine pw_aload_n C dX5_restore_40 rfl 0 rfl ?_
      refine pw_get (v := .ref (gad G 20)) C iX5 (by decide) (pw_sh_0 _) rfl 6 (by decide) k5 rfl dX5_restore_41 ?_
      refine pw_iconst (v := (0 : Int32)) C dX5_restore_44 (by decide) ?_
      refine pw_putN (host := "PulpitRoads") (ty := .int) C iX0 tyX0 tyX0_ok nmX0 (by decide) (pw_sh_20 _) rfl 1 (by decide) (pw_sh_20 _) 30 rfl rfl (by decide +kernel) (fn_int _) (Nat.le_of_ble_eq_true rfl) dX5_restore_45 ?_
      refine pw_iconst (v := (1 : Int32)) C dX5_restore_48 (by decide) ?_
      exact pw_iret C h dX5_restore_49
    · have h := fn_neg c21 h
      refine pw_ldc C k3 dX5_restore_24 ?_
      exact pw_iret C h dX5_restore_26
  · have h := fn_neg c6 h
    refine pw_ldc C k1 dX5_restore_9 ?_
    exact pw_iret C h dX5_restore_11
set_option maxHeartbeats 4000000 in
set_option maxRecDepth 100000 in
theorem ct_X5_kind (l : Launch) {G : pw_G} (hG : pw_Ok G) {a1 : Int32}  {μ μ' : pw_Mem} {r : Int32} (h : fn_X5_kind a1 μ = some (r, μ')) : Met l yX5_kind wsX5_kind ({ frames := 1, cells := 0, slots := 0, locals := 21 }) (va_Pc [.ref (gad G 0), .int a1] (pw_Pre G μ)) (va_Qi (fun (r1 : Int32) (u : pw_Mem) => r1 = r ∧ u = μ') (pw_B G) (gA G)) 0 0 (gA G) := by
  refine pw_met (lv := [(0, .ref (gad G 0)), (1, .int a1)]) (own := RX5) (cc := cX5_kind) (maxL := 2) (ret := some .int) hG rfl (by decide) rfl rfl (Nat.le_of_ble_eq_true rfl) ?_
  intro p e s m below meth c C
  have iX2 : ∀ w ∈ u_ws RX2 TX2 12, w ∈ wsX5_kind := fun _ h => List.mem_cons_of_mem _ (List.mem_append_right _ (h))
  have iX5 : ∀ w ∈ u_ws RX5 TX5 10, w ∈ wsX5_kind := fun _ h => List.mem_cons_of_mem _ (List.mem_append_left _ (List.mem_append_right _ (h)))
  have k1 := C.2.2.2.2.1 (.fieldLink RX5 25 "PulpitRoads" "now" "LPulpitRoads$Road;") (List.mem_cons_of_mem _ (List.mem_append_left _ (List.mem_append_left _ (List.mem_of_getElem? (i := 0) rfl))))
  have k2 := C.2.2.2.2.1 (.constant RX5 59 (-1000001)) (List.mem_cons_of_mem _ (List.mem_append_left _ (List.mem_append_left _ (List.mem_of_getElem? (i := 1) rfl))))
  unfold fn_X5_kind at h
  refine pw_aload_n C dX5_kind_0 rfl 0 rfl ?_
  refine pw_iload_n C dX5_kind_1 rfl 1 rfl ?_
  obtain ⟨r2, m2, hc2, h⟩ := fn_bi_s h
  refine pw_callVi (rest := []) C (by decide) (pw_sh_0 _) rfl (ct_X5_isPulpit l C.2.2.2.2.2.2.2.2 hc2) (cwV 1 C.2.2.2.2.1 gX5_kind_X5_isPulpit rfl rfl rfl (by decide +kernel) ⟨Nat.le_of_ble_eq_true rfl, Nat.le_of_ble_eq_true rfl⟩) rfl rfl (Nat.le_of_ble_eq_true rfl) dX5_kind_2 ?_
  refine pw_if_eq (tgt := 20) C dX5_kind_5 (by decide) (fun c5 => ?_) (fun c5 => ?_)
  · have h := fn_pos c5 h
    refine pw_ldc C k2 dX5_kind_20 ?_
    exact pw_iret C h dX5_kind_22
  · have h := fn_neg c5 h
    refine pw_aload_n C dX5_kind_8 rfl 0 rfl ?_
    refine pw_get (v := .ref (gad G 4)) C iX5 (by decide) (pw_sh_0 _) rfl 2 (by decide) k1 rfl dX5_kind_9 ?_
    refine pw_getN (v := .ref (gad G (4 + 3))) C iX2 (pw_ltD pw_K4) (pw_shD pw_K4 _) rfl 8 (by decide) 20 rfl rfl dX5_kind_12 ?_
    refine pw_iload_n C dX5_kind_15 rfl 1 rfl ?_
    obtain ⟨hi16, h⟩ := fn_ix_s h
    refine pw_iald C (pw_ltD6 pw_K4 3 (by decide)) ((pw_shD3 pw_K4) _) hi16 dX5_kind_16 ?_
    refine pw_goto (tgt := 22) C dX5_kind_17 (by decide) ?_
    exact pw_iret C h dX5_kind_22
set_option maxHeartbeats 4000000 in
set_option maxRecDepth 100000 in
theorem ct_X5_isSuch (l : Launch) {G : pw_G} (hG : pw_Ok G) {a0 : Int32} {a1 : Int32}  {μ μ' : pw_Mem} {r : Int32} (h : fn_X5_isSuch a0 a1 μ = some (r, μ')) : Met l yX5_isSuch wsX5_isSuch ({ frames := 0, cells := 0, slots := 0, locals := 0 }) (va_Pc [.int a0, .int a1] (pw_Pre G μ)) (va_Qi (fun (r1 : Int32) (u : pw_Mem) => r1 = r ∧ u = μ') (pw_B G) (gA G)) 0 0 (gA G) := by
  refine pw_met (lv := [(0, .int a0), (1, .int a1)]) (own := RX5) (cc := cX5_isSuch) (maxL := 4) (ret := some .boolean) hG rfl (by decide) rfl rfl (Nat.le_of_ble_eq_true rfl) ?_
  intro p e s m below meth c C
  have k1 := C.2.2.2.2.1 (.fieldLink RX5 285 "PulpitRoads" "KIND_ABOVE" "[I") (List.mem_cons_of_mem _ (List.mem_of_getElem? (i := 0) rfl))
  unfold fn_X5_isSuch at h
  refine pw_iload_n C dX5_isSuch_0 rfl 0 rfl ?_
  refine pw_istore_n (lv' := [(2, .int a0), (0, .int a0), (1, .int a1)]) C dX5_isSuch_1 rfl (by decide) rfl ?_
  refine pw_iconst (v := (0 : Int32)) C dX5_isSuch_2 (by decide) ?_
  refine pw_istore_n (lv' := [(3, .int (0 : Int32)), (2, .int a0), (0, .int a0), (1, .int a1)]) C dX5_isSuch_3 rfl (by decide) rfl ?_
  have L4 : ∀ (k : pw_Mem → Option (Int32 × pw_Mem)) (hk : ∀  (m1 : pw_Mem), k m1 = some (r, μ') → pw_Go p l e ({ frames := 0, cells := 0, slots := 0, locals := 0 }) s m (([.int a0, .int a1] : List Value).toArray) below meth c (MQ below (va_Qi (fun (r1 : Int32) (u : pw_Mem) => r1 = r ∧ u = μ') (pw_B G) (gA G)) (([.int a0, .int a1] : List Value).toArray) s 0 0 (gA G)) G 4 29 [] [] m1) (n : Nat) (v2 : Int32) (v3 : Int32) (m1 : pw_Mem), fl_X5_isSuch_4 k a1 n v2 v3 m1 = some (r, μ') → pw_Go p l e ({ frames := 0, cells := 0, slots := 0, locals := 0 }) s m (([.int a0, .int a1] : List Value).toArray) below meth c (MQ below (va_Qi (fun (r1 : Int32) (u : pw_Mem) => r1 = r ∧ u = μ') (pw_B G) (gA G)) (([.int a0, .int a1] : List Value).toArray) s 0 0 (gA G)) G 4 4 [(1, .int a1), (2, .int v2), (3, .int v3)] [] m1 := by
    intro k hk n
    induction n with
    | zero => intro v2 v3 m1 h; exact nomatch (show (none : Option (Int32 × pw_Mem)) = some _ from h)
    | succ n ih =>
      intro v2 v3 m1 h
      rw [fl_X5_isSuch_4] at h
      refine pw_iload_n C dX5_isSuch_4 rfl 2 rfl ?_
      refine pw_bipush (v := (6 : Int32)) C dX5_isSuch_5 (by decide) ?_
      refine pw_icmp_ge (tgt := 29) C dX5_isSuch_7 (by decide) (fun c7 => ?_) (fun c7 => ?_)
      · have h := fn_pos c7 h
        refine pw_sub [] rfl ?_
        exact hk _ h
      · have h := fn_neg c7 h
        refine pw_iload_n C dX5_isSuch_10 rfl 1 rfl ?_
        refine pw_iload_n C dX5_isSuch_11 rfl 0 rfl ?_
        refine pw_icmp_ne (tgt := 17) C dX5_isSuch_12 (by decide) (fun c12 => ?_) (fun c12 => ?_)
        · have h := fn_pos c12 h
          refine pw_gets C 1 (by decide) k1 dX5_isSuch_17 ?_
          refine pw_iload_n C dX5_isSuch_20 rfl 1 rfl ?_
          obtain ⟨hi21, h⟩ := fn_ix_s h
          refine pw_ti C 1 (by decide) hi21 dX5_isSuch_21 ?_
          refine pw_istore_n (lv' := [(2, .int (pw_tv 1 (v2).toNatClampNeg)), (1, .int a1), (3, .int v3)]) C dX5_isSuch_22 rfl (by decide) rfl ?_
          refine pw_iinc (v := (v3 + 1)) (lv' := [(3, .int (v3 + 1)), (2, .int (pw_tv 1 (v2).toNatClampNeg)), (1, .int a1)]) C dX5_isSuch_23 (q := 2) rfl rfl (by decide) rfl ?_
          refine pw_goto (tgt := 4) C dX5_isSuch_26 (by decide) ?_
          refine pw_sub [2, 1, 0] rfl ?_
          exact ih _ _ _ h
        · have h := fn_neg c12 h
          refine pw_iconst (v := (1 : Int32)) C dX5_isSuch_15 (by decide) ?_
          obtain ⟨hz16, h⟩ := fn_bz_s h
          exact pw_zret C hz16 h dX5_isSuch_16
  refine pw_sub [3, 1, 0] rfl ?_
  refine L4 _ (fun m29 h => ?_) _ _ _ _ h
  refine pw_iconst (v := (0 : Int32)) C dX5_isSuch_29 (by decide) ?_
  obtain ⟨hz30, h⟩ := fn_bz_s h
  exact pw_zret C hz30 h dX5_isSuch_30
set_option maxHeartbeats 4000000 in
set_option maxRecDepth 100000 in
theorem ct_X5_as (l : Launch) {G : pw_G} (hG : pw_Ok G) {a1 : Int32} {a2 : Int32}  {μ μ' : pw_Mem} {r : Int32} (h : fn_X5_as a1 a2 μ = some (r, μ')) : Met l yX5_as wsX5_as ({ frames := 1, cells := 0, slots := 0, locals := 23 }) (va_Pc [.ref (gad G 0), .int a1, .int a2] (pw_Pre G μ)) (va_Qi (fun (r1 : Int32) (u : pw_Mem) => r1 = r ∧ u = μ') (pw_B G) (gA G)) 0 0 (gA G) := by
  refine pw_met (lv := [(0, .ref (gad G 0)), (1, .int a1), (2, .int a2)]) (own := RX5) (cc := cX5_as) (maxL := 3) (ret := some .int) hG rfl (by decide) rfl rfl (Nat.le_of_ble_eq_true rfl) ?_
  intro p e s m below meth c C
  have iX2 : ∀ w ∈ u_ws RX2 TX2 12, w ∈ wsX5_as := fun _ h => List.mem_cons_of_mem _ (List.mem_append_right _ (h))
  have iX5 : ∀ w ∈ u_ws RX5 TX5 10, w ∈ wsX5_as := fun _ h => List.mem_cons_of_mem _ (List.mem_append_left _ (List.mem_append_right _ (h)))
  have k1 := C.2.2.2.2.1 (.constant RX5 59 (-1000001)) (List.mem_cons_of_mem _ (List.mem_append_left _ (List.mem_append_left _ (List.mem_of_getElem? (i := 0) rfl))))
  have k2 := C.2.2.2.2.1 (.fieldLink RX5 25 "PulpitRoads" "now" "LPulpitRoads$Road;") (List.mem_cons_of_mem _ (List.mem_append_left _ (List.mem_append_left _ (List.mem_of_getElem? (i := 1) rfl))))
  unfold fn_X5_as at h
  refine pw_aload_n C dX5_as_0 rfl 0 rfl ?_
  refine pw_iload_n C dX5_as_1 rfl 1 rfl ?_
  obtain ⟨r2, m2, hc2, h⟩ := fn_bi_s h
  refine pw_callVi (rest := []) C (by decide) (pw_sh_0 _) rfl (ct_X5_isPulpit l C.2.2.2.2.2.2.2.2 hc2) (cwV 1 C.2.2.2.2.1 gX5_as_X5_isPulpit rfl rfl rfl (by decide +kernel) ⟨Nat.le_of_ble_eq_true rfl, Nat.le_of_ble_eq_true rfl⟩) rfl rfl (Nat.le_of_ble_eq_true rfl) dX5_as_2 ?_
  refine pw_if_eq (tgt := 17) C dX5_as_5 (by decide) (fun c5 => ?_) (fun c5 => ?_)
  · have h := fn_pos c5 h
    refine pw_ldc C k1 dX5_as_17 ?_
    exact pw_iret C h dX5_as_19
  · have h := fn_neg c5 h
    refine pw_iload_n C dX5_as_8 rfl 2 rfl ?_
    refine pw_iconst (v := (0 : Int32)) C dX5_as_9 (by decide) ?_
    refine pw_iconst (v := (5 : Int32)) C dX5_as_10 (by decide) ?_
    obtain ⟨r11, m11, hc11, h⟩ := fn_bi_s h
    refine pw_callSi (rest := []) C (ct_X5_isWithin l C.2.2.2.2.2.2.2.2 hc11) (va_cwS 3 C.2.2.2.2.1 gX5_as_X5_isWithin rfl rfl rfl (by decide +kernel) ⟨Nat.le_of_ble_eq_true rfl, Nat.le_of_ble_eq_true rfl⟩) rfl rfl (Nat.le_of_ble_eq_true rfl) dX5_as_11 ?_
    refine pw_if_ne (tgt := 20) C dX5_as_14 (by decide) (fun c14 => ?_) (fun c14 => ?_)
    · have h := fn_pos c14 h
      refine pw_aload_n C dX5_as_20 rfl 0 rfl ?_
      refine pw_get (v := .ref (gad G 4)) C iX5 (by decide) (pw_sh_0 _) rfl 2 (by decide) k2 rfl dX5_as_21 ?_
      refine pw_getN (v := .ref (gad G (4 + 3))) C iX2 (pw_ltD pw_K4) (pw_shD pw_K4 _) rfl 8 (by decide) 20 rfl rfl dX5_as_24 ?_
      refine pw_iload_n C dX5_as_27 rfl 1 rfl ?_
      obtain ⟨hi28, h⟩ := fn_ix_s h
      refine pw_iald C (pw_ltD6 pw_K4 3 (by decide)) ((pw_shD3 pw_K4) _) hi28 dX5_as_28 ?_
      refine pw_iload_n C dX5_as_29 rfl 2 rfl ?_
      obtain ⟨r30, m30, hc30, h⟩ := fn_bi_s h
      refine pw_callSi (rest := []) C (ct_X5_isSuch l C.2.2.2.2.2.2.2.2 hc30) (va_cwS 2 C.2.2.2.2.1 gX5_as_X5_isSuch rfl rfl rfl (by decide +kernel) ⟨Nat.le_of_ble_eq_true rfl, Nat.le_of_ble_eq_true rfl⟩) rfl rfl (Nat.le_of_ble_eq_true rfl) dX5_as_30 ?_
      refine pw_if_eq (tgt := 44) C dX5_as_33 (by decide) (fun c33 => ?_) (fun c33 => ?_)
      · have h := fn_pos c33 h
        refine pw_aload_n C dX5_as_44 rfl 0 rfl ?_
        refine pw_iconst (v := (3 : Int32)) C dX5_as_45 (by decide) ?_
        obtain ⟨r46, m46, hc46, h⟩ := fn_bi_s h
        refine pw_callVi (rest := []) C (by decide) (pw_sh_0 _) rfl (ct_X5_found l C.2.2.2.2.2.2.2.2 hc46) (cwV 1 C.2.2.2.2.1 gX5_as_X5_found rfl rfl rfl (by decide +kernel) ⟨Nat.le_of_ble_eq_true rfl, Nat.le_of_ble_eq_true rfl⟩) rfl rfl (Nat.le_of_ble_eq_true rfl) dX5_as_46 ?_
        exact pw_iret C h dX5_as_49
      · have h := fn_neg c33 h
        refine pw_aload_n C dX5_as_36 rfl 0 rfl ?_
        refine pw_iload_n C dX5_as_37 rfl 1 rfl ?_
        obtain ⟨r38, m38, hc38, h⟩ := fn_bi_s h
        refine pw_callVi (rest := []) C (by decide) (pw_sh_0 _) rfl (ct_X5_foundNothing l C.2.2.2.2.2.2.2.2 hc38) (cwV 1 C.2.2.2.2.1 gX5_as_X5_foundNothing rfl rfl rfl (by decide +kernel) ⟨Nat.le_of_ble_eq_true rfl, Nat.le_of_ble_eq_true rfl⟩) rfl rfl (Nat.le_of_ble_eq_true rfl) dX5_as_38 ?_
        refine pw_goto (tgt := 49) C dX5_as_41 (by decide) ?_
        exact pw_iret C h dX5_as_49
    · have h := fn_neg c14 h
      refine pw_ldc C k1 dX5_as_17 ?_
      exact pw_iret C h dX5_as_19
set_option maxHeartbeats 4000000 in
set_option maxRecDepth 100000 in
theorem ct_X5_trace (l : Launch) {G : pw_G} (hG : pw_Ok G) {a1 : Int32}  {μ μ' : pw_Mem} {r : Int32} (h : fn_X5_trace a1 μ = some (r, μ')) : Met l yX5_trace wsX5_trace ({ frames := 0, cells := 0, slots := 0, locals := 0 }) (va_Pc [.ref (gad G 0), .int a1] (pw_Pre G μ)) (va_Qi (fun (r1 : Int32) (u : pw_Mem) => r1 = r ∧ u = μ') (pw_B G) (gA G)) 0 0 (gA G) := by
  refine pw_met (lv := [(0, .ref (gad G 0)), (1, .int a1)]) (own := RX5) (cc := cX5_trace) (maxL := 2) (ret := some .int) hG rfl (by decide) rfl rfl (Nat.le_of_ble_eq_true rfl) ?_
  intro p e s m below meth c C
  have iX1 : ∀ w ∈ u_ws RX1 TX1 2, w ∈ wsX5_trace := fun _ h => List.mem_cons_of_mem _ (List.mem_append_right _ (h))
  have iX5 : ∀ w ∈ u_ws RX5 TX5 10, w ∈ wsX5_trace := fun _ h => List.mem_cons_of_mem _ (List.mem_append_left _ (List.mem_append_right _ (h)))
  have k1 := C.2.2.2.2.1 (.fieldLink RX5 50 "PulpitRoads" "bodies" "LPulpitRoads$Bodies;") (List.mem_cons_of_mem _ (List.mem_append_left _ (List.mem_append_left _ (List.mem_of_getElem? (i := 0) rfl))))
  have k2 := C.2.2.2.2.1 (.constant RX5 196 (-1000000)) (List.mem_cons_of_mem _ (List.mem_append_left _ (List.mem_append_left _ (List.mem_of_getElem? (i := 1) rfl))))
  unfold fn_X5_trace at h
  refine pw_iload_n C dX5_trace_0 rfl 1 rfl ?_
  refine pw_if_lt (tgt := 27) C dX5_trace_1 (by decide) (fun c1 => ?_) (fun c1 => ?_)
  · have h := fn_pos c1 h
    refine pw_ldc C k2 dX5_trace_27 ?_
    exact pw_iret C h dX5_trace_29
  · have h := fn_neg c1 h
    refine pw_iload_n C dX5_trace_4 rfl 1 rfl ?_
    refine pw_aload_n C dX5_trace_5 rfl 0 rfl ?_
    refine pw_get (v := .ref (gad G 22)) C iX5 (by decide) (pw_sh_0 _) rfl 7 (by decide) k1 rfl dX5_trace_6 ?_
    refine pw_getN (v := .int (μ 22 1)) C iX1 (by decide) (pw_sh_22 _) rfl 1 (by decide) 32 rfl rfl dX5_trace_9 ?_
    refine pw_icmp_ge (tgt := 27) C dX5_trace_12 (by decide) (fun c12 => ?_) (fun c12 => ?_)
    · have h := fn_pos c12 h
      refine pw_ldc C k2 dX5_trace_27 ?_
      exact pw_iret C h dX5_trace_29
    · have h := fn_neg c12 h
      refine pw_aload_n C dX5_trace_15 rfl 0 rfl ?_
      refine pw_get (v := .ref (gad G 22)) C iX5 (by decide) (pw_sh_0 _) rfl 7 (by decide) k1 rfl dX5_trace_16 ?_
      refine pw_getN (v := .ref (gad G 23)) C iX1 (by decide) (pw_sh_22 _) rfl 0 (by decide) 31 rfl rfl dX5_trace_19 ?_
      refine pw_iload_n C dX5_trace_22 rfl 1 rfl ?_
      obtain ⟨hi23, h⟩ := fn_ix_s h
      refine pw_iald C (by decide) (pw_sh_23 _) hi23 dX5_trace_23 ?_
      refine pw_goto (tgt := 29) C dX5_trace_24 (by decide) ?_
      exact pw_iret C h dX5_trace_29
set_option maxHeartbeats 4000000 in
set_option maxRecDepth 100000 in
theorem ct_X5_rowsThere (l : Launch) {G : pw_G} (hG : pw_Ok G)   {μ μ' : pw_Mem} {r : Int32} (h : fn_X5_rowsThere μ = some (r, μ')) : Met l yX5_rowsThere wsX5_rowsThere ({ frames := 0, cells := 0, slots := 0, locals := 0 }) (va_Pc [.ref (gad G 0)] (pw_Pre G μ)) (va_Qi (fun (r1 : Int32) (u : pw_Mem) => r1 = r ∧ u = μ') (pw_B G) (gA G)) 0 0 (gA G) := by
  refine pw_met (lv := [(0, .ref (gad G 0))]) (own := RX5) (cc := cX5_rowsThere) (maxL := 3) (ret := some .int) hG rfl (by decide) rfl rfl (Nat.le_of_ble_eq_true rfl) ?_
  intro p e s m below meth c C
  have iX3 : ∀ w ∈ u_ws RX3 TX3 4, w ∈ wsX5_rowsThere := fun _ h => List.mem_cons_of_mem _ (List.mem_append_right _ (h))
  have iX5 : ∀ w ∈ u_ws RX5 TX5 10, w ∈ wsX5_rowsThere := fun _ h => List.mem_cons_of_mem _ (List.mem_append_left _ (List.mem_append_right _ (h)))
  have k1 := C.2.2.2.2.1 (.fieldLink RX5 11 "PulpitRoads" "rows" "[LPulpitRoads$Row;") (List.mem_cons_of_mem _ (List.mem_append_left _ (List.mem_append_left _ (List.mem_of_getElem? (i := 0) rfl))))
  unfold fn_X5_rowsThere at h
  refine pw_iconst (v := (0 : Int32)) C dX5_rowsThere_0 (by decide) ?_
  refine pw_istore_n (lv' := [(1, .int (0 : Int32)), (0, .ref (gad G 0))]) C dX5_rowsThere_1 rfl (by decide) rfl ?_
  refine pw_iconst (v := (0 : Int32)) C dX5_rowsThere_2 (by decide) ?_
  refine pw_istore_n (lv' := [(2, .int (0 : Int32)), (1, .int (0 : Int32)), (0, .ref (gad G 0))]) C dX5_rowsThere_3 rfl (by decide) rfl ?_
  have L4 : ∀ (k : Int32 → pw_Mem → Option (Int32 × pw_Mem)) (hk : ∀ (v1 : Int32) (m1 : pw_Mem), k v1 m1 = some (r, μ') → pw_Go p l e ({ frames := 0, cells := 0, slots := 0, locals := 0 }) s m (([.ref (gad G 0)] : List Value).toArray) below meth c (MQ below (va_Qi (fun (r1 : Int32) (u : pw_Mem) => r1 = r ∧ u = μ') (pw_B G) (gA G)) (([.ref (gad G 0)] : List Value).toArray) s 0 0 (gA G)) G 3 31 [(1, .int v1)] [] m1) (n : Nat) (v1 : Int32) (v2 : Int32) (m1 : pw_Mem), fl_X5_rowsThere_4 k  n v1 v2 m1 = some (r, μ') → pw_Go p l e ({ frames := 0, cells := 0, slots := 0, locals := 0 }) s m (([.ref (gad G 0)] : List Value).toArray) below meth c (MQ below (va_Qi (fun (r1 : Int32) (u : pw_Mem) => r1 = r ∧ u = μ') (pw_B G) (gA G)) (([.ref (gad G 0)] : List Value).toArray) s 0 0 (gA G)) G 3 4 [(0, .ref (gad G 0)), (1, .int v1), (2, .int v2)] [] m1 := by
    intro k hk n
    induction n with
    | zero => intro v1 v2 m1 h; exact nomatch (show (none : Option (Int32 × pw_Mem)) = some _ from h)
    | succ n ih =>
      intro v1 v2 m1 h
      rw [fl_X5_rowsThere_4] at h
      refine pw_iload_n C dX5_rowsThere_4 rfl 2 rfl ?_
      refine pw_bipush (v := (8 : Int32)) C dX5_rowsThere_5 (by decide) ?_
      refine pw_icmp_ge (tgt := 31) C dX5_rowsThere_7 (by decide) (fun c7 => ?_) (fun c7 => ?_)
      · have h := fn_pos c7 h
        refine pw_sub [1] rfl ?_
        exact hk _ _ h
      · have h := fn_neg c7 h
        refine pw_aload_n C dX5_rowsThere_10 rfl 0 rfl ?_
        refine pw_get (v := .ref (gad G 1)) C iX5 (by decide) (pw_sh_0 _) rfl 0 (by decide) k1 rfl dX5_rowsThere_11 ?_
        refine pw_iload_n C dX5_rowsThere_14 rfl 2 rfl ?_
        obtain ⟨hi15, h⟩ := fn_ix_s h
        refine pw_aldR C hi15 dX5_rowsThere_15 ?_
        refine pw_getN (v := .int (m1 (24 + 2 * (v2).toNatClampNeg) 1)) C iX3 (pw_ltR (pw_KR_of hi15)) (pw_shR (pw_KR_of hi15) _) rfl 1 (by decide) 34 rfl rfl dX5_rowsThere_16 ?_
        refine fn_jn1_s (fun x25_0 m25 => pw_Go p l e ({ frames := 0, cells := 0, slots := 0, locals := 0 }) s m (([.ref (gad G 0)] : List Value).toArray) below meth c (MQ below (va_Qi (fun (r1 : Int32) (u : pw_Mem) => r1 = r ∧ u = μ') (pw_B G) (gA G)) (([.ref (gad G 0)] : List Value).toArray) s 0 0 (gA G)) G 3 25 [(0, .ref (gad G 0)), (1, .int x25_0), (2, .int v2)] [] m25) h (fun x25_0 m25 h => ?_) (fun k25 hk25 h => ?_)
        · refine pw_iinc (v := (v2 + 1)) (lv' := [(2, .int (v2 + 1)), (0, .ref (gad G 0)), (1, .int x25_0)]) C dX5_rowsThere_25 (q := 2) rfl rfl (by decide) rfl ?_
          refine pw_goto (tgt := 4) C dX5_rowsThere_28 (by decide) ?_
          refine pw_sub [1, 2, 0] rfl ?_
          exact ih _ _ _ h
        · refine pw_if_ne (tgt := 25) C dX5_rowsThere_19 (by decide) (fun c19 => ?_) (fun c19 => ?_)
          · have h := fn_pos c19 h
            exact hk25 _ _ h
          · have h := fn_neg c19 h
            refine pw_iinc (v := (v1 + 1)) (lv' := [(1, .int (v1 + 1)), (0, .ref (gad G 0)), (2, .int v2)]) C dX5_rowsThere_22 (q := 1) rfl rfl (by decide) rfl ?_
            refine pw_sub [1, 0, 2] rfl ?_
            exact hk25 _ _ h
  refine pw_sub [2, 1, 0] rfl ?_
  refine L4 _ (fun y4_1 m31 h => ?_) _ _ _ _ h
  refine pw_iload_n C dX5_rowsThere_31 rfl 0 rfl ?_
  exact pw_iret C h dX5_rowsThere_32
set_option maxHeartbeats 4000000 in
set_option maxRecDepth 100000 in
theorem ct_X5_count (l : Launch) {G : pw_G} (hG : pw_Ok G) {a1 : Int32}  {μ μ' : pw_Mem} {r : Int32} (h : fn_X5_count a1 μ = some (r, μ')) : Met l yX5_count wsX5_count ({ frames := 2, cells := 0, slots := 0, locals := 42 }) (va_Pc [.ref (gad G 0), .int a1] (pw_Pre G μ)) (va_Qi (fun (r1 : Int32) (u : pw_Mem) => r1 = r ∧ u = μ') (pw_B G) (gA G)) 0 0 (gA G) := by
  refine pw_met (lv := [(0, .ref (gad G 0)), (1, .int a1)]) (own := RX5) (cc := cX5_count) (maxL := 2) (ret := some .int) hG rfl (by decide) rfl rfl (Nat.le_of_ble_eq_true rfl) ?_
  intro p e s m below meth c C
  have iX0 : ∀ w ∈ u_ws RX0 TX0 3, w ∈ wsX5_count := fun _ h => List.mem_cons_of_mem _ (List.mem_append_left _ (List.mem_append_left _ (List.mem_append_right _ (h))))
  have iX2 : ∀ w ∈ u_ws RX2 TX2 12, w ∈ wsX5_count := fun _ h => List.mem_cons_of_mem _ (List.mem_append_left _ (List.mem_append_left _ (List.mem_append_left _ (List.mem_append_right _ (h)))))
  have iX4 : ∀ w ∈ u_ws RX4 TX4 4, w ∈ wsX5_count := fun _ h => List.mem_cons_of_mem _ (List.mem_append_left _ (List.mem_append_right _ (h)))
  have iX5 : ∀ w ∈ u_ws RX5 TX5 10, w ∈ wsX5_count := fun _ h => List.mem_cons_of_mem _ (List.mem_append_left _ (List.mem_append_left _ (List.mem_append_left _ (List.mem_append_left _ (List.mem_append_right _ (h))))))
  have k1 := C.2.2.2.2.1 (.fieldLink RX5 25 "PulpitRoads" "now" "LPulpitRoads$Road;") (List.mem_cons_of_mem _ (List.mem_append_left _ (List.mem_append_left _ (List.mem_append_left _ (List.mem_append_left _ (List.mem_append_left _ (List.mem_append_left _ (List.mem_of_getElem? (i := 0) rfl))))))))
  have k11 := C.2.2.2.2.1 (.instanceMethod yX2_wholeGates) (List.mem_cons_of_mem _ (List.mem_append_left _ (List.mem_append_left _ (List.mem_append_left _ (List.mem_append_left _ (List.mem_append_left _ (List.mem_append_left _ (List.mem_of_getElem? (i := 10) rfl))))))))
  have k12 := C.2.2.2.2.1 (.initialized RX2) (List.mem_cons_of_mem _ (List.mem_append_left _ (List.mem_append_left _ (List.mem_append_left _ (List.mem_append_left _ (List.mem_append_left _ (List.mem_append_left _ (List.mem_of_getElem? (i := 11) rfl))))))))
  have k13 := C.2.2.2.2.1 (.selects RX2 yX2_wholeGates yX2_wholeGates) (List.mem_cons_of_mem _ (List.mem_append_left _ (List.mem_append_left _ (List.mem_append_left _ (List.mem_append_left _ (List.mem_append_left _ (List.mem_append_left _ (List.mem_of_getElem? (i := 12) rfl))))))))
  have k2 := C.2.2.2.2.1 (.fieldLink RX5 43 "PulpitRoads" "acts" "LPulpitRoads$Acts;") (List.mem_cons_of_mem _ (List.mem_append_left _ (List.mem_append_left _ (List.mem_append_left _ (List.mem_append_left _ (List.mem_append_left _ (List.mem_append_left _ (List.mem_of_getElem? (i := 1) rfl))))))))
  have k22 := C.2.2.2.2.1 (.instanceMethod yX2_wordsHeard) (List.mem_cons_of_mem _ (List.mem_append_left _ (List.mem_append_left _ (List.mem_append_left _ (List.mem_append_left _ (List.mem_append_left _ (List.mem_append_left _ (List.mem_of_getElem? (i := 21) rfl))))))))
  have k23 := C.2.2.2.2.1 (.selects RX2 yX2_wordsHeard yX2_wordsHeard) (List.mem_cons_of_mem _ (List.mem_append_left _ (List.mem_append_left _ (List.mem_append_left _ (List.mem_append_left _ (List.mem_append_left _ (List.mem_append_left _ (List.mem_of_getElem? (i := 22) rfl))))))))
  have k3 := C.2.2.2.2.1 (.fieldLink RX5 18 "PulpitRoads" "tape" "LPulpitRoads$Tape;") (List.mem_cons_of_mem _ (List.mem_append_left _ (List.mem_append_left _ (List.mem_append_left _ (List.mem_append_left _ (List.mem_append_left _ (List.mem_append_left _ (List.mem_of_getElem? (i := 2) rfl))))))))
  have k4 := C.2.2.2.2.1 (.constant RX5 59 (-1000001)) (List.mem_cons_of_mem _ (List.mem_append_left _ (List.mem_append_left _ (List.mem_append_left _ (List.mem_append_left _ (List.mem_append_left _ (List.mem_append_left _ (List.mem_of_getElem? (i := 3) rfl))))))))
  have nm14 : va_Nw (.methodLinkNest RX5 141 yX2_wholeGates "PulpitRoads") s := C.2.2.2.2.2.2.2.1.2.1.2 ("PulpitRoads", 141, ⟨"PulpitRoads$Road", "wholeGates", "()I"⟩, "PulpitRoads") (List.mem_of_getElem? (i := 14) rfl)
  have nm24 : va_Nw (.methodLinkNest RX5 246 yX2_wordsHeard "PulpitRoads") s := C.2.2.2.2.2.2.2.1.2.1.2 ("PulpitRoads", 246, ⟨"PulpitRoads$Road", "wordsHeard", "()I"⟩, "PulpitRoads") (List.mem_of_getElem? (i := 24) rfl)
  unfold fn_X5_count at h
  refine pw_iload_n C dX5_count_0 rfl 1 rfl ?_
  by_cases c1_0 : a1 = 0
  · have h := fn_pos c1_0 h
    refine pw_tabIn (tgt := 56) C 0 c1_0 dX5_count_1 (by decide) (by decide) rfl (by decide) ?_
    refine pw_aload_n C dX5_count_56 rfl 0 rfl ?_
    obtain ⟨r57, m57, hc57, h⟩ := fn_bi_s h
    refine pw_callVi (rest := []) C (by decide) (pw_sh_0 _) rfl (ct_X5_rowsThere l C.2.2.2.2.2.2.2.2 hc57) (cwV 0 C.2.2.2.2.1 gX5_count_X5_rowsThere rfl rfl rfl (by decide +kernel) ⟨Nat.le_of_ble_eq_true rfl, Nat.le_of_ble_eq_true rfl⟩) rfl rfl (Nat.le_of_ble_eq_true rfl) dX5_count_57 ?_
    exact pw_iret C h dX5_count_60
  · have h := fn_neg c1_0 h
    have n1_0 := pw_neI c1_0 (show (0 : Int32).toInt = 0 by decide)
    by_cases c1_1 : a1 = 1
    · have h := fn_pos c1_1 h
      refine pw_tabIn (tgt := 61) C 1 c1_1 dX5_count_1 (by decide) (by decide) rfl (by decide) ?_
      refine pw_aload_n C dX5_count_61 rfl 0 rfl ?_
      refine pw_get (v := .ref (gad G 4)) C iX5 (by decide) (pw_sh_0 _) rfl 2 (by decide) k1 rfl dX5_count_62 ?_
      refine pw_getN (v := .int (μ 4 4)) C iX2 (pw_ltD pw_K4) (pw_shD pw_K4 _) rfl 4 (by decide) 11 rfl rfl dX5_count_65 ?_
      exact pw_iret C h dX5_count_68
    · have h := fn_neg c1_1 h
      have n1_1 := pw_neI c1_1 (show (1 : Int32).toInt = 1 by decide)
      by_cases c1_2 : a1 = 2
      · have h := fn_pos c1_2 h
        refine pw_tabIn (tgt := 69) C 2 c1_2 dX5_count_1 (by decide) (by decide) rfl (by decide) ?_
        refine pw_aload_n C dX5_count_69 rfl 0 rfl ?_
        refine pw_get (v := .ref (gad G 4)) C iX5 (by decide) (pw_sh_0 _) rfl 2 (by decide) k1 rfl dX5_count_70 ?_
        refine pw_getN (v := .int (μ 4 5)) C iX2 (pw_ltD pw_K4) (pw_shD pw_K4 _) rfl 5 (by decide) 13 rfl rfl dX5_count_73 ?_
        exact pw_iret C h dX5_count_76
      · have h := fn_neg c1_2 h
        have n1_2 := pw_neI c1_2 (show (2 : Int32).toInt = 2 by decide)
        by_cases c1_3 : a1 = 3
        · have h := fn_pos c1_3 h
          refine pw_tabIn (tgt := 77) C 3 c1_3 dX5_count_1 (by decide) (by decide) rfl (by decide) ?_
          refine pw_aload_n C dX5_count_77 rfl 0 rfl ?_
          refine pw_get (v := .ref (gad G 4)) C iX5 (by decide) (pw_sh_0 _) rfl 2 (by decide) k1 rfl dX5_count_78 ?_
          refine pw_getN (v := .int (μ 4 3)) C iX2 (pw_ltD pw_K4) (pw_shD pw_K4 _) rfl 3 (by decide) 9 rfl rfl dX5_count_81 ?_
          exact pw_iret C h dX5_count_84
        · have h := fn_neg c1_3 h
          have n1_3 := pw_neI c1_3 (show (3 : Int32).toInt = 3 by decide)
          by_cases c1_4 : a1 = 4
          · have h := fn_pos c1_4 h
            refine pw_tabIn (tgt := 85) C 4 c1_4 dX5_count_1 (by decide) (by decide) rfl (by decide) ?_
            refine pw_aload_n C dX5_count_85 rfl 0 rfl ?_
            refine pw_get (v := .ref (gad G 4)) C iX5 (by decide) (pw_sh_0 _) rfl 2 (by decide) k1 rfl dX5_count_86 ?_
            refine pw_getN (v := .int (μ 4 1)) C iX2 (pw_ltD pw_K4) (pw_shD pw_K4 _) rfl 1 (by decide) 5 rfl rfl dX5_count_89 ?_
            exact pw_iret C h dX5_count_92
          · have h := fn_neg c1_4 h
            have n1_4 := pw_neI c1_4 (show (4 : Int32).toInt = 4 by decide)
            by_cases c1_5 : a1 = 5
            · have h := fn_pos c1_5 h
              refine pw_tabIn (tgt := 93) C 5 c1_5 dX5_count_1 (by decide) (by decide) rfl (by decide) ?_
              refine pw_aload_n C dX5_count_93 rfl 0 rfl ?_
              refine pw_get (v := .ref (gad G 4)) C iX5 (by decide) (pw_sh_0 _) rfl 2 (by decide) k1 rfl dX5_count_94 ?_
              refine pw_getN (v := .int (μ 4 2)) C iX2 (pw_ltD pw_K4) (pw_shD pw_K4 _) rfl 2 (by decide) 7 rfl rfl dX5_count_97 ?_
              exact pw_iret C h dX5_count_100
            · have h := fn_neg c1_5 h
              have n1_5 := pw_neI c1_5 (show (5 : Int32).toInt = 5 by decide)
              by_cases c1_6 : a1 = 6
              · have h := fn_pos c1_6 h
                refine pw_tabIn (tgt := 101) C 6 c1_6 dX5_count_1 (by decide) (by decide) rfl (by decide) ?_
                refine pw_aload_n C dX5_count_101 rfl 0 rfl ?_
                refine pw_get (v := .ref (gad G 20)) C iX5 (by decide) (pw_sh_0 _) rfl 6 (by decide) k2 rfl dX5_count_102 ?_
                refine pw_getN (v := .int (μ 20 1)) C iX0 (by decide) (pw_sh_20 _) rfl 1 (by decide) 30 rfl rfl dX5_count_105 ?_
                exact pw_iret C h dX5_count_108
              · have h := fn_neg c1_6 h
                have n1_6 := pw_neI c1_6 (show (6 : Int32).toInt = 6 by decide)
                by_cases c1_7 : a1 = 7
                · have h := fn_pos c1_7 h
                  refine pw_tabIn (tgt := 109) C 7 c1_7 dX5_count_1 (by decide) (by decide) rfl (by decide) ?_
                  refine pw_aload_n C dX5_count_109 rfl 0 rfl ?_
                  refine pw_get (v := .ref (gad G 2)) C iX5 (by decide) (pw_sh_0 _) rfl 1 (by decide) k3 rfl dX5_count_110 ?_
                  refine pw_getN (v := .int (μ 2 1)) C iX4 (by decide) (pw_sh_2 _) rfl 1 (by decide) 0 rfl rfl dX5_count_113 ?_
                  exact pw_iret C h dX5_count_116
                · have h := fn_neg c1_7 h
                  have n1_7 := pw_neI c1_7 (show (7 : Int32).toInt = 7 by decide)
                  by_cases c1_8 : a1 = 8
                  · have h := fn_pos c1_8 h
                    refine pw_tabIn (tgt := 117) C 8 c1_8 dX5_count_1 (by decide) (by decide) rfl (by decide) ?_
                    refine pw_aload_n C dX5_count_117 rfl 0 rfl ?_
                    refine pw_get (v := .ref (gad G 4)) C iX5 (by decide) (pw_sh_0 _) rfl 2 (by decide) k1 rfl dX5_count_118 ?_
                    obtain ⟨r121, m121, hc121, h⟩ := fn_bi_s h
                    refine pw_callVNi (rest := []) C (pw_ltD pw_K4) (pw_shD pw_K4 _) rfl (ct_X2_wholeGates l C.2.2.2.2.2.2.2.2 pw_K4 hc121) ⟨va_cnB 0 C.2.2.2.2.1 gX5_count_X2_wholeGates_n141 rfl rfl rfl nm14 k12 (by decide +kernel) ⟨Nat.le_of_ble_eq_true rfl, Nat.le_of_ble_eq_true rfl⟩, k11, k13⟩ rfl rfl (Nat.le_of_ble_eq_true rfl) dX5_count_121 ?_
                    exact pw_iret C h dX5_count_124
                  · have h := fn_neg c1_8 h
                    have n1_8 := pw_neI c1_8 (show (8 : Int32).toInt = 8 by decide)
                    by_cases c1_9 : a1 = 9
                    · have h := fn_pos c1_9 h
                      refine pw_tabIn (tgt := 125) C 9 c1_9 dX5_count_1 (by decide) (by decide) rfl (by decide) ?_
                      refine pw_aload_n C dX5_count_125 rfl 0 rfl ?_
                      refine pw_get (v := .ref (gad G 4)) C iX5 (by decide) (pw_sh_0 _) rfl 2 (by decide) k1 rfl dX5_count_126 ?_
                      obtain ⟨r129, m129, hc129, h⟩ := fn_bi_s h
                      refine pw_callVNi (rest := []) C (pw_ltD pw_K4) (pw_shD pw_K4 _) rfl (ct_X2_wordsHeard l C.2.2.2.2.2.2.2.2 pw_K4 hc129) ⟨va_cnB 0 C.2.2.2.2.1 gX5_count_X2_wordsHeard_n246 rfl rfl rfl nm24 k12 (by decide +kernel) ⟨Nat.le_of_ble_eq_true rfl, Nat.le_of_ble_eq_true rfl⟩, k22, k23⟩ rfl rfl (Nat.le_of_ble_eq_true rfl) dX5_count_129 ?_
                      exact pw_iret C h dX5_count_132
                    · have h := fn_neg c1_9 h
                      have n1_9 := pw_neI c1_9 (show (9 : Int32).toInt = 9 by decide)
                      refine pw_tabOut (tgt := 133) C dX5_count_1 (by omega) (by decide) ?_
                      refine pw_ldc C k4 dX5_count_133 ?_
                      exact pw_iret C h dX5_count_135
set_option maxHeartbeats 4000000 in
set_option maxRecDepth 100000 in
theorem ct_X5_status (l : Launch) {G : pw_G} (hG : pw_Ok G)   {μ μ' : pw_Mem} {r : Int32} (h : fn_X5_status μ = some (r, μ')) : Met l yX5_status wsX5_status ({ frames := 0, cells := 0, slots := 0, locals := 0 }) (va_Pc [.ref (gad G 0)] (pw_Pre G μ)) (va_Qi (fun (r1 : Int32) (u : pw_Mem) => r1 = r ∧ u = μ') (pw_B G) (gA G)) 0 0 (gA G) := by
  refine pw_met (lv := [(0, .ref (gad G 0))]) (own := RX5) (cc := cX5_status) (maxL := 1) (ret := some .int) hG rfl (by decide) rfl rfl (Nat.le_of_ble_eq_true rfl) ?_
  intro p e s m below meth c C
  have iX5 : ∀ w ∈ u_ws RX5 TX5 10, w ∈ wsX5_status := fun _ h => List.mem_cons_of_mem _ (List.mem_append_right _ (h))
  have k1 := C.2.2.2.2.1 (.fieldLink RX5 273 "PulpitRoads" "latestFinding" "I") (List.mem_cons_of_mem _ (List.mem_append_left _ (List.mem_of_getElem? (i := 0) rfl)))
  unfold fn_X5_status at h
  refine pw_aload_n C dX5_status_0 rfl 0 rfl ?_
  refine pw_get (v := .int (μ 0 9)) C iX5 (by decide) (pw_sh_0 _) rfl 9 (by decide) k1 rfl dX5_status_1 ?_
  exact pw_iret C h dX5_status_4
set_option maxHeartbeats 4000000 in
set_option maxRecDepth 100000 in
theorem ct_X6_in (l : Launch) {G : pw_G} (hG : pw_Ok G) {a0 : Int64} {a2 : Int64} {a4 : Int64}  {μ μ' : pw_Mem} {r : Int32} (h : fn_X6_in a0 a2 a4 μ = some (r, μ')) : Met l yX6_in wsX6_in ({ frames := 0, cells := 0, slots := 0, locals := 0 }) (va_Pc [.long a0, .long a2, .long a4] (pw_Pre G μ)) (va_Qi (fun (r1 : Int32) (u : pw_Mem) => r1 = r ∧ u = μ') (pw_B G) (gA G)) 0 0 (gA G) := by
  refine pw_met (lv := [(0, .long a0), (2, .long a2), (4, .long a4)]) (own := RX6) (cc := cX6_in) (maxL := 6) (ret := some .boolean) hG rfl (by decide) rfl rfl (Nat.le_of_ble_eq_true rfl) ?_
  intro p e s m below meth c C
  unfold fn_X6_in at h
  refine pw_lload_n C dX6_in_0 rfl 0 rfl ?_
  refine pw_lload_n C dX6_in_1 rfl 1 rfl ?_
  refine pw_lcmp C dX6_in_2 ?_
  refine pw_if_lt (tgt := 17) C dX6_in_3 (by decide) (fun c3 => ?_) (fun c3 => ?_)
  · have h := fn_pos c3 h
    refine pw_iconst (v := (0 : Int32)) C dX6_in_17 (by decide) ?_
    obtain ⟨hz18, h⟩ := fn_bz_s h
    exact pw_zret C hz18 h dX6_in_18
  · have h := fn_neg c3 h
    refine pw_lload_n C dX6_in_6 rfl 0 rfl ?_
    refine pw_lload C dX6_in_7 2 rfl ?_
    refine pw_lcmp C dX6_in_9 ?_
    refine pw_if_gt (tgt := 17) C dX6_in_10 (by decide) (fun c10 => ?_) (fun c10 => ?_)
    · have h := fn_pos c10 h
      refine pw_iconst (v := (0 : Int32)) C dX6_in_17 (by decide) ?_
      obtain ⟨hz18, h⟩ := fn_bz_s h
      exact pw_zret C hz18 h dX6_in_18
    · have h := fn_neg c10 h
      refine pw_iconst (v := (1 : Int32)) C dX6_in_13 (by decide) ?_
      refine pw_goto (tgt := 18) C dX6_in_14 (by decide) ?_
      obtain ⟨hz18, h⟩ := fn_bz_s h
      exact pw_zret C hz18 h dX6_in_18
set_option maxHeartbeats 4000000 in
set_option maxRecDepth 100000 in
theorem ct_X6_has (l : Launch) {G : pw_G} (hG : pw_Ok G) {a0 : Int32} {a1 : Int32}  {μ μ' : pw_Mem} {r : Int32} (h : fn_X6_has a0 a1 μ = some (r, μ')) : Met l yX6_has wsX6_has ({ frames := 0, cells := 0, slots := 0, locals := 0 }) (va_Pc [.int a0, .int a1] (pw_Pre G μ)) (va_Qi (fun (r1 : Int32) (u : pw_Mem) => r1 = r ∧ u = μ') (pw_B G) (gA G)) 0 0 (gA G) := by
  refine pw_met (lv := [(0, .int a0), (1, .int a1)]) (own := RX6) (cc := cX6_has) (maxL := 2) (ret := some .boolean) hG rfl (by decide) rfl rfl (Nat.le_of_ble_eq_true rfl) ?_
  intro p e s m below meth c C
  unfold fn_X6_has at h
  refine pw_iload_n C dX6_has_0 rfl 0 rfl ?_
  refine pw_iload_n C dX6_has_1 rfl 1 rfl ?_
  refine pw_ishr C dX6_has_2 ?_
  refine pw_iconst (v := (1 : Int32)) C dX6_has_3 (by decide) ?_
  refine pw_iand C dX6_has_4 ?_
  refine pw_iconst (v := (1 : Int32)) C dX6_has_5 (by decide) ?_
  refine pw_icmp_ne (tgt := 13) C dX6_has_6 (by decide) (fun c6 => ?_) (fun c6 => ?_)
  · have h := fn_pos c6 h
    refine pw_iconst (v := (0 : Int32)) C dX6_has_13 (by decide) ?_
    obtain ⟨hz14, h⟩ := fn_bz_s h
    exact pw_zret C hz14 h dX6_has_14
  · have h := fn_neg c6 h
    refine pw_iconst (v := (1 : Int32)) C dX6_has_9 (by decide) ?_
    refine pw_goto (tgt := 14) C dX6_has_10 (by decide) ?_
    obtain ⟨hz14, h⟩ := fn_bz_s h
    exact pw_zret C hz14 h dX6_has_14
set_option maxHeartbeats 4000000 in
set_option maxRecDepth 100000 in
theorem ct_X6_ones (l : Launch) {G : pw_G} (hG : pw_Ok G) {a0 : Int32}  {μ μ' : pw_Mem} {r : Int32} (h : fn_X6_ones a0 μ = some (r, μ')) : Met l yX6_ones wsX6_ones ({ frames := 0, cells := 0, slots := 0, locals := 0 }) (va_Pc [.int a0] (pw_Pre G μ)) (va_Qi (fun (r1 : Int32) (u : pw_Mem) => r1 = r ∧ u = μ') (pw_B G) (gA G)) 0 0 (gA G) := by
  refine pw_met (lv := [(0, .int a0)]) (own := RX6) (cc := cX6_ones) (maxL := 3) (ret := some .int) hG rfl (by decide) rfl rfl (Nat.le_of_ble_eq_true rfl) ?_
  intro p e s m below meth c C
  unfold fn_X6_ones at h
  refine pw_iconst (v := (0 : Int32)) C dX6_ones_0 (by decide) ?_
  refine pw_istore_n (lv' := [(1, .int (0 : Int32)), (0, .int a0)]) C dX6_ones_1 rfl (by decide) rfl ?_
  refine pw_iconst (v := (0 : Int32)) C dX6_ones_2 (by decide) ?_
  refine pw_istore_n (lv' := [(2, .int (0 : Int32)), (1, .int (0 : Int32)), (0, .int a0)]) C dX6_ones_3 rfl (by decide) rfl ?_
  have L4 : ∀ (k : Int32 → pw_Mem → Option (Int32 × pw_Mem)) (hk : ∀ (v1 : Int32) (m1 : pw_Mem), k v1 m1 = some (r, μ') → pw_Go p l e ({ frames := 0, cells := 0, slots := 0, locals := 0 }) s m (([.int a0] : List Value).toArray) below meth c (MQ below (va_Qi (fun (r1 : Int32) (u : pw_Mem) => r1 = r ∧ u = μ') (pw_B G) (gA G)) (([.int a0] : List Value).toArray) s 0 0 (gA G)) G 3 24 [(1, .int v1)] [] m1) (n : Nat) (v1 : Int32) (v2 : Int32) (m1 : pw_Mem), fl_X6_ones_4 k a0 n v1 v2 m1 = some (r, μ') → pw_Go p l e ({ frames := 0, cells := 0, slots := 0, locals := 0 }) s m (([.int a0] : List Value).toArray) below meth c (MQ below (va_Qi (fun (r1 : Int32) (u : pw_Mem) => r1 = r ∧ u = μ') (pw_B G) (gA G)) (([.int a0] : List Value).toArray) s 0 0 (gA G)) G 3 4 [(0, .int a0), (1, .int v1), (2, .int v2)] [] m1 := by
    intro k hk n
    induction n with
    | zero => intro v1 v2 m1 h; exact nomatch (show (none : Option (Int32 × pw_Mem)) = some _ from h)
    | succ n ih =>
      intro v1 v2 m1 h
      rw [fl_X6_ones_4] at h
      refine pw_iload_n C dX6_ones_4 rfl 2 rfl ?_
      refine pw_bipush (v := (16 : Int32)) C dX6_ones_5 (by decide) ?_
      refine pw_icmp_ge (tgt := 24) C dX6_ones_7 (by decide) (fun c7 => ?_) (fun c7 => ?_)
      · have h := fn_pos c7 h
        refine pw_sub [1] rfl ?_
        exact hk _ _ h
      · have h := fn_neg c7 h
        refine pw_iload_n C dX6_ones_10 rfl 1 rfl ?_
        refine pw_iload_n C dX6_ones_11 rfl 0 rfl ?_
        refine pw_iload_n C dX6_ones_12 rfl 2 rfl ?_
        refine pw_ishr C dX6_ones_13 ?_
        refine pw_iconst (v := (1 : Int32)) C dX6_ones_14 (by decide) ?_
        refine pw_iand C dX6_ones_15 ?_
        refine pw_iadd C dX6_ones_16 ?_
        refine pw_istore_n (lv' := [(1, .int (v1 + ((a0 >>> (v2 &&& 31)) &&& (1 : Int32)))), (0, .int a0), (2, .int v2)]) C dX6_ones_17 rfl (by decide) rfl ?_
        refine pw_iinc (v := (v2 + 1)) (lv' := [(2, .int (v2 + 1)), (1, .int (v1 + ((a0 >>> (v2 &&& 31)) &&& (1 : Int32)))), (0, .int a0)]) C dX6_ones_18 (q := 2) rfl rfl (by decide) rfl ?_
        refine pw_goto (tgt := 4) C dX6_ones_21 (by decide) ?_
        refine pw_sub [2, 1, 0] rfl ?_
        exact ih _ _ _ h
  refine pw_sub [2, 1, 0] rfl ?_
  refine L4 _ (fun y4_1 m24 h => ?_) _ _ _ _ h
  refine pw_iload_n C dX6_ones_24 rfl 0 rfl ?_
  exact pw_iret C h dX6_ones_25
set_option maxHeartbeats 4000000 in
set_option maxRecDepth 100000 in
theorem ct_X6_copyOf (l : Launch) {G : pw_G} (hG : pw_Ok G) {a1 : Int32} {a2 : Int32} {a3 : Int32}  {μ μ' : pw_Mem} (h : fn_X6_copyOf a1 a2 a3 μ = some μ') : Met l yX6_copyOf wsX6_copyOf ({ frames := 0, cells := 0, slots := 0, locals := 0 }) (va_Pc [.ref (gad G 54), .int a1, .int a2, .int a3] (pw_Pre G μ)) (va_Qv (fun (u : pw_Mem) => u = μ') (pw_B G) (gA G)) 0 0 (gA G) := by
  refine pw_met (lv := [(0, .ref (gad G 54)), (1, .int a1), (2, .int a2), (3, .int a3)]) (own := RX6) (cc := cX6_copyOf) (maxL := 5) (ret := none) hG rfl (by decide) rfl rfl (Nat.le_of_ble_eq_true rfl) ?_
  intro p e s m below meth c C
  have iX6 : ∀ w ∈ u_ws RX6 TX6 16, w ∈ wsX6_copyOf := fun _ h => List.mem_cons_of_mem _ (List.mem_append_right _ (h))
  have k1 := C.2.2.2.2.1 (.fieldLink RX6 7 "PulpitRoadsModel" "w" "[I") (List.mem_cons_of_mem _ (List.mem_append_left _ (List.mem_of_getElem? (i := 0) rfl)))
  unfold fn_X6_copyOf at h
  refine pw_iconst (v := (0 : Int32)) C dX6_copyOf_0 (by decide) ?_
  refine pw_istore (lv' := [(4, .int (0 : Int32)), (0, .ref (gad G 54)), (1, .int a1), (2, .int a2), (3, .int a3)]) C dX6_copyOf_1 (by decide) rfl ?_
  have L3 : ∀ (k : pw_Mem → Option (pw_Mem)) (hk : ∀  (m1 : pw_Mem), k m1 = some μ' → pw_Go p l e ({ frames := 0, cells := 0, slots := 0, locals := 0 }) s m (([.ref (gad G 54), .int a1, .int a2, .int a3] : List Value).toArray) below meth c (MQ below (va_Qv (fun (u : pw_Mem) => u = μ') (pw_B G) (gA G)) (([.ref (gad G 54), .int a1, .int a2, .int a3] : List Value).toArray) s 0 0 (gA G)) G 5 33 [] [] m1) (n : Nat) (v4 : Int32) (m1 : pw_Mem), fl_X6_copyOf_3 k a1 a2 a3 n v4 m1 = some μ' → pw_Go p l e ({ frames := 0, cells := 0, slots := 0, locals := 0 }) s m (([.ref (gad G 54), .int a1, .int a2, .int a3] : List Value).toArray) below meth c (MQ below (va_Qv (fun (u : pw_Mem) => u = μ') (pw_B G) (gA G)) (([.ref (gad G 54), .int a1, .int a2, .int a3] : List Value).toArray) s 0 0 (gA G)) G 5 3 [(0, .ref (gad G 54)), (1, .int a1), (2, .int a2), (3, .int a3), (4, .int v4)] [] m1 := by
    intro k hk n
    induction n with
    | zero => intro v4 m1 h; exact nomatch (show (none : Option (pw_Mem)) = some _ from h)
    | succ n ih =>
      intro v4 m1 h
      rw [fl_X6_copyOf_3] at h
      refine pw_iload C dX6_copyOf_3 4 rfl ?_
      refine pw_iload_n C dX6_copyOf_5 rfl 3 rfl ?_
      refine pw_icmp_ge (tgt := 33) C dX6_copyOf_6 (by decide) (fun c6 => ?_) (fun c6 => ?_)
      · have h := fn_pos c6 h
        refine pw_sub [] rfl ?_
        exact hk _ h
      · have h := fn_neg c6 h
        refine pw_aload_n C dX6_copyOf_9 rfl 0 rfl ?_
        refine pw_get (v := .ref (gad G 55)) C iX6 (by decide) (pw_sh_54 _) rfl 0 (by decide) k1 rfl dX6_copyOf_10 ?_
        refine pw_iload_n C dX6_copyOf_13 rfl 2 rfl ?_
        refine pw_iload C dX6_copyOf_14 4 rfl ?_
        refine pw_iadd C dX6_copyOf_16 ?_
        refine pw_aload_n C dX6_copyOf_17 rfl 0 rfl ?_
        refine pw_get (v := .ref (gad G 55)) C iX6 (by decide) (pw_sh_54 _) rfl 0 (by decide) k1 rfl dX6_copyOf_18 ?_
        refine pw_iload_n C dX6_copyOf_21 rfl 1 rfl ?_
        refine pw_iload C dX6_copyOf_22 4 rfl ?_
        refine pw_iadd C dX6_copyOf_24 ?_
        obtain ⟨hi25, h⟩ := fn_ix_s h
        refine pw_iald C (by decide) (pw_sh_55 _) hi25 dX6_copyOf_25 ?_
        obtain ⟨hi26, h⟩ := fn_ix_s h
        refine pw_iast C (by decide) pw_sh_55 hi26 dX6_copyOf_26 ?_
        refine pw_iinc (v := (v4 + 1)) (lv' := [(4, .int (v4 + 1)), (0, .ref (gad G 54)), (1, .int a1), (2, .int a2), (3, .int a3)]) C dX6_copyOf_27 (q := 4) rfl rfl (by decide) rfl ?_
        refine pw_goto (tgt := 3) C dX6_copyOf_30 (by decide) ?_
        refine pw_sub [1, 2, 3, 4, 0] rfl ?_
        exact ih _ _ h
  refine pw_sub [1, 2, 3, 4, 0] rfl ?_
  refine L3 _ (fun m33 h => ?_) _ _ _ h
  exact pw_vret C h dX6_copyOf_33
set_option maxHeartbeats 4000000 in
set_option maxRecDepth 100000 in
theorem ct_X6_isPulpit (l : Launch) {G : pw_G} (hG : pw_Ok G) {a1 : Int32}  {μ μ' : pw_Mem} {r : Int32} (h : fn_X6_isPulpit a1 μ = some (r, μ')) : Met l yX6_isPulpit wsX6_isPulpit ({ frames := 1, cells := 0, slots := 0, locals := 25 }) (va_Pc [.ref (gad G 54), .int a1] (pw_Pre G μ)) (va_Qi (fun (r1 : Int32) (u : pw_Mem) => r1 = r ∧ u = μ') (pw_B G) (gA G)) 0 0 (gA G) := by
  refine pw_met (lv := [(0, .ref (gad G 54)), (1, .int a1)]) (own := RX6) (cc := cX6_isPulpit) (maxL := 2) (ret := some .boolean) hG rfl (by decide) rfl rfl (Nat.le_of_ble_eq_true rfl) ?_
  intro p e s m below meth c C
  have iX6 : ∀ w ∈ u_ws RX6 TX6 16, w ∈ wsX6_isPulpit := fun _ h => List.mem_cons_of_mem _ (List.mem_append_right _ (h))
  have k1 := C.2.2.2.2.1 (.fieldLink RX6 7 "PulpitRoadsModel" "w" "[I") (List.mem_cons_of_mem _ (List.mem_append_left _ (List.mem_of_getElem? (i := 0) rfl)))
  unfold fn_X6_isPulpit at h
  refine pw_iload_n C dX6_isPulpit_0 rfl 1 rfl ?_
  refine pw_i2l C dX6_isPulpit_1 ?_
  refine pw_lconst (v := (0 : Int64)) C dX6_isPulpit_2 (by decide) ?_
  refine pw_aload_n C dX6_isPulpit_3 rfl 0 rfl ?_
  refine pw_get (v := .ref (gad G 55)) C iX6 (by decide) (pw_sh_54 _) rfl 0 (by decide) k1 rfl dX6_isPulpit_4 ?_
  refine pw_iconst (v := (1 : Int32)) C dX6_isPulpit_7 (by decide) ?_
  obtain ⟨hi8, h⟩ := fn_ix_s h
  refine pw_iald C (by decide) (pw_sh_55 _) hi8 dX6_isPulpit_8 ?_
  refine pw_iconst (v := (1 : Int32)) C dX6_isPulpit_9 (by decide) ?_
  refine pw_isub C dX6_isPulpit_10 ?_
  refine pw_i2l C dX6_isPulpit_11 ?_
  obtain ⟨r12, m12, hc12, h⟩ := fn_bi_s h
  refine pw_callSi (rest := []) C (ct_X6_in l C.2.2.2.2.2.2.2.2 hc12) (va_cwS 3 C.2.2.2.2.1 gX6_isPulpit_X6_in rfl rfl rfl (by decide +kernel) ⟨Nat.le_of_ble_eq_true rfl, Nat.le_of_ble_eq_true rfl⟩) rfl rfl (Nat.le_of_ble_eq_true rfl) dX6_isPulpit_12 ?_
  obtain ⟨hz15, h⟩ := fn_bz_s h
  exact pw_zret C hz15 h dX6_isPulpit_15
set_option maxHeartbeats 4000000 in
set_option maxRecDepth 100000 in
theorem ct_X6_isStretch (l : Launch) {G : pw_G} (hG : pw_Ok G) {a1 : Int32}  {μ μ' : pw_Mem} {r : Int32} (h : fn_X6_isStretch a1 μ = some (r, μ')) : Met l yX6_isStretch wsX6_isStretch ({ frames := 1, cells := 0, slots := 0, locals := 25 }) (va_Pc [.ref (gad G 54), .int a1] (pw_Pre G μ)) (va_Qi (fun (r1 : Int32) (u : pw_Mem) => r1 = r ∧ u = μ') (pw_B G) (gA G)) 0 0 (gA G) := by
  refine pw_met (lv := [(0, .ref (gad G 54)), (1, .int a1)]) (own := RX6) (cc := cX6_isStretch) (maxL := 2) (ret := some .boolean) hG rfl (by decide) rfl rfl (Nat.le_of_ble_eq_true rfl) ?_
  intro p e s m below meth c C
  have iX6 : ∀ w ∈ u_ws RX6 TX6 16, w ∈ wsX6_isStretch := fun _ h => List.mem_cons_of_mem _ (List.mem_append_right _ (h))
  have k1 := C.2.2.2.2.1 (.fieldLink RX6 7 "PulpitRoadsModel" "w" "[I") (List.mem_cons_of_mem _ (List.mem_append_left _ (List.mem_of_getElem? (i := 0) rfl)))
  unfold fn_X6_isStretch at h
  refine pw_iload_n C dX6_isStretch_0 rfl 1 rfl ?_
  refine pw_i2l C dX6_isStretch_1 ?_
  refine pw_lconst (v := (0 : Int64)) C dX6_isStretch_2 (by decide) ?_
  refine pw_aload_n C dX6_isStretch_3 rfl 0 rfl ?_
  refine pw_get (v := .ref (gad G 55)) C iX6 (by decide) (pw_sh_54 _) rfl 0 (by decide) k1 rfl dX6_isStretch_4 ?_
  refine pw_iconst (v := (0 : Int32)) C dX6_isStretch_7 (by decide) ?_
  obtain ⟨hi8, h⟩ := fn_ix_s h
  refine pw_iald C (by decide) (pw_sh_55 _) hi8 dX6_isStretch_8 ?_
  refine pw_iconst (v := (1 : Int32)) C dX6_isStretch_9 (by decide) ?_
  refine pw_isub C dX6_isStretch_10 ?_
  refine pw_i2l C dX6_isStretch_11 ?_
  obtain ⟨r12, m12, hc12, h⟩ := fn_bi_s h
  refine pw_callSi (rest := []) C (ct_X6_in l C.2.2.2.2.2.2.2.2 hc12) (va_cwS 3 C.2.2.2.2.1 gX6_isStretch_X6_in rfl rfl rfl (by decide +kernel) ⟨Nat.le_of_ble_eq_true rfl, Nat.le_of_ble_eq_true rfl⟩) rfl rfl (Nat.le_of_ble_eq_true rfl) dX6_isStretch_12 ?_
  obtain ⟨hz15, h⟩ := fn_bz_s h
  exact pw_zret C hz15 h dX6_isStretch_15
set_option maxHeartbeats 4000000 in
set_option maxRecDepth 100000 in
theorem ct_X6_isRoad (l : Launch) {G : pw_G} (hG : pw_Ok G)   {μ μ' : pw_Mem} {r : Int32} (h : fn_X6_isRoad μ = some (r, μ')) : Met l yX6_isRoad wsX6_isRoad ({ frames := 0, cells := 0, slots := 0, locals := 0 }) (va_Pc [.ref (gad G 54)] (pw_Pre G μ)) (va_Qi (fun (r1 : Int32) (u : pw_Mem) => r1 = r ∧ u = μ') (pw_B G) (gA G)) 0 0 (gA G) := by
  refine pw_met (lv := [(0, .ref (gad G 54))]) (own := RX6) (cc := cX6_isRoad) (maxL := 1) (ret := some .boolean) hG rfl (by decide) rfl rfl (Nat.le_of_ble_eq_true rfl) ?_
  intro p e s m below meth c C
  have iX6 : ∀ w ∈ u_ws RX6 TX6 16, w ∈ wsX6_isRoad := fun _ h => List.mem_cons_of_mem _ (List.mem_append_right _ (h))
  have k1 := C.2.2.2.2.1 (.fieldLink RX6 7 "PulpitRoadsModel" "w" "[I") (List.mem_cons_of_mem _ (List.mem_append_left _ (List.mem_of_getElem? (i := 0) rfl)))
  unfold fn_X6_isRoad at h
  refine pw_aload_n C dX6_isRoad_0 rfl 0 rfl ?_
  refine pw_get (v := .ref (gad G 55)) C iX6 (by decide) (pw_sh_54 _) rfl 0 (by decide) k1 rfl dX6_isRoad_1 ?_
  refine pw_iconst (v := (0 : Int32)) C dX6_isRoad_4 (by decide) ?_
  obtain ⟨hi5, h⟩ := fn_ix_s h
  refine pw_iald C (by decide) (pw_sh_55 _) hi5 dX6_isRoad_5 ?_
  refine pw_if_le (tgt := 13) C dX6_isRoad_6 (by decide) (fun c6 => ?_) (fun c6 => ?_)
  · have h := fn_pos c6 h
    refine pw_iconst (v := (0 : Int32)) C dX6_isRoad_13 (by decide) ?_
    obtain ⟨hz14, h⟩ := fn_bz_s h
    exact pw_zret C hz14 h dX6_isRoad_14
  · have h := fn_neg c6 h
    refine pw_iconst (v := (1 : Int32)) C dX6_isRoad_9 (by decide) ?_
    refine pw_goto (tgt := 14) C dX6_isRoad_10 (by decide) ?_
    obtain ⟨hz14, h⟩ := fn_bz_s h
    exact pw_zret C hz14 h dX6_isRoad_14
set_option maxHeartbeats 4000000 in
set_option maxRecDepth 100000 in
theorem ct_X6_isRow (l : Launch) {G : pw_G} (hG : pw_Ok G) {a0 : Int32}  {μ μ' : pw_Mem} {r : Int32} (h : fn_X6_isRow a0 μ = some (r, μ')) : Met l yX6_isRow wsX6_isRow ({ frames := 1, cells := 0, slots := 0, locals := 25 }) (va_Pc [.int a0] (pw_Pre G μ)) (va_Qi (fun (r1 : Int32) (u : pw_Mem) => r1 = r ∧ u = μ') (pw_B G) (gA G)) 0 0 (gA G) := by
  refine pw_met (lv := [(0, .int a0)]) (own := RX6) (cc := cX6_isRow) (maxL := 1) (ret := some .boolean) hG rfl (by decide) rfl rfl (Nat.le_of_ble_eq_true rfl) ?_
  intro p e s m below meth c C
  have k1 := C.2.2.2.2.1 (.constantLong RX6 38 (7)) (List.mem_cons_of_mem _ (List.mem_of_getElem? (i := 0) rfl))
  unfold fn_X6_isRow at h
  refine pw_iload_n C dX6_isRow_0 rfl 0 rfl ?_
  refine pw_i2l C dX6_isRow_1 ?_
  refine pw_lconst (v := (0 : Int64)) C dX6_isRow_2 (by decide) ?_
  refine pw_ldc2 C k1 dX6_isRow_3 ?_
  obtain ⟨r6, m6, hc6, h⟩ := fn_bi_s h
  refine pw_callSi (rest := []) C (ct_X6_in l C.2.2.2.2.2.2.2.2 hc6) (va_cwS 3 C.2.2.2.2.1 gX6_isRow_X6_in rfl rfl rfl (by decide +kernel) ⟨Nat.le_of_ble_eq_true rfl, Nat.le_of_ble_eq_true rfl⟩) rfl rfl (Nat.le_of_ble_eq_true rfl) dX6_isRow_6 ?_
  obtain ⟨hz9, h⟩ := fn_bz_s h
  exact pw_zret C hz9 h dX6_isRow_9
set_option maxHeartbeats 4000000 in
set_option maxRecDepth 100000 in
theorem ct_X6_finds (l : Launch) {G : pw_G} (hG : pw_Ok G) {a1 : Int32}  {μ μ' : pw_Mem} {r : Int32} (h : fn_X6_finds a1 μ = some (r, μ')) : Met l yX6_finds wsX6_finds ({ frames := 0, cells := 0, slots := 0, locals := 0 }) (va_Pc [.ref (gad G 54), .int a1] (pw_Pre G μ)) (va_Qi (fun (r1 : Int32) (u : pw_Mem) => r1 = r ∧ u = μ') (pw_B G) (gA G)) 0 0 (gA G) := by
  refine pw_met (lv := [(0, .ref (gad G 54)), (1, .int a1)]) (own := RX6) (cc := cX6_finds) (maxL := 2) (ret := some .int) hG rfl (by decide) rfl rfl (Nat.le_of_ble_eq_true rfl) ?_
  intro p e s m below meth c C
  have iX6 : ∀ w ∈ u_ws RX6 TX6 16, w ∈ wsX6_finds := fun _ h => List.mem_cons_of_mem _ (List.mem_append_right _ (h))
  have k1 := C.2.2.2.2.1 (.fieldLink RX6 40 "PulpitRoadsModel" "status" "I") (List.mem_cons_of_mem _ (List.mem_append_left _ (List.mem_of_getElem? (i := 0) rfl)))
  have k2 := C.2.2.2.2.1 (.constant RX6 44 (-1000010)) (List.mem_cons_of_mem _ (List.mem_append_left _ (List.mem_of_getElem? (i := 1) rfl)))
  unfold fn_X6_finds at h
  refine pw_aload_n C dX6_finds_0 rfl 0 rfl ?_
  refine pw_iload_n C dX6_finds_1 rfl 1 rfl ?_
  refine pw_put (host := "PulpitRoads") (ty := .int) C iX6 tyX6 tyX6_ok nmX6 (by decide) (pw_sh_54 _) rfl 5 (by decide) (pw_sh_54 _) k1 rfl (by decide +kernel) (fn_int _) (Nat.le_of_ble_eq_true rfl) dX6_finds_2 ?_
  refine pw_ldc C k2 dX6_finds_5 ?_
  refine pw_iload_n C dX6_finds_7 rfl 1 rfl ?_
  refine pw_isub C dX6_finds_8 ?_
  exact pw_iret C h dX6_finds_9
set_option maxHeartbeats 4000000 in
set_option maxRecDepth 100000 in
theorem ct_X6_against (l : Launch) {G : pw_G} (hG : pw_Ok G) {a1 : Int32} {a2 : Int32} {a3 : Int32}  {μ μ' : pw_Mem} {r : Int32} (h : fn_X6_against a1 a2 a3 μ = some (r, μ')) : Met l yX6_against wsX6_against ({ frames := 0, cells := 0, slots := 0, locals := 0 }) (va_Pc [.ref (gad G 54), .int a1, .int a2, .int a3] (pw_Pre G μ)) (va_Qi (fun (r1 : Int32) (u : pw_Mem) => r1 = r ∧ u = μ') (pw_B G) (gA G)) 0 0 (gA G) := by
  refine pw_met (lv := [(0, .ref (gad G 54)), (1, .int a1), (2, .int a2), (3, .int a3)]) (own := RX6) (cc := cX6_against) (maxL := 4) (ret := some .int) hG rfl (by decide) rfl rfl (Nat.le_of_ble_eq_true rfl) ?_
  intro p e s m below meth c C
  have iX6 : ∀ w ∈ u_ws RX6 TX6 16, w ∈ wsX6_against := fun _ h => List.mem_cons_of_mem _ (List.mem_append_right _ (h))
  have k1 := C.2.2.2.2.1 (.fieldLink RX6 16 "PulpitRoadsModel" "many" "[I") (List.mem_cons_of_mem _ (List.mem_append_left _ (List.mem_of_getElem? (i := 0) rfl)))
  unfold fn_X6_against at h
  refine pw_aload_n C dX6_against_0 rfl 0 rfl ?_
  refine pw_get (v := .ref (gad G 57)) C iX6 (by decide) (pw_sh_54 _) rfl 6 (by decide) k1 rfl dX6_against_1 ?_
  refine pw_iload_n C dX6_against_4 rfl 1 rfl ?_
  obtain ⟨hi5, h⟩ := fn_ix_s h
  refine pw_iald C (by decide) (pw_sh_57 _) hi5 dX6_against_5 ?_
  refine pw_if_ge (tgt := 13) C dX6_against_6 (by decide) (fun c6 => ?_) (fun c6 => ?_)
  · have h := fn_pos c6 h
    refine pw_iload_n C dX6_against_13 rfl 2 rfl ?_
    refine fn_jn0_s (fun m37 => pw_Go p l e ({ frames := 0, cells := 0, slots := 0, locals := 0 }) s m (([.ref (gad G 54), .int a1, .int a2, .int a3] : List Value).toArray) below meth c (MQ below (va_Qi (fun (r1 : Int32) (u : pw_Mem) => r1 = r ∧ u = μ') (pw_B G) (gA G)) (([.ref (gad G 54), .int a1, .int a2, .int a3] : List Value).toArray) s 0 0 (gA G)) G 4 37 [] [] m37) h (fun m37 h => ?_) (fun k37 hk37 h => ?_)
    · refine pw_iconst (v := (2 : Int32)) C dX6_against_37 (by decide) ?_
      refine pw_goto (tgt := 42) C dX6_against_38 (by decide) ?_
      exact pw_iret C h dX6_against_42
    · refine pw_if_lt (tgt := 37) C dX6_against_14 (by decide) (fun c14 => ?_) (fun c14 => ?_)
      · have h := fn_pos c14 h
        refine pw_sub [] rfl ?_
        exact hk37 _ h
      · have h := fn_neg c14 h
        refine pw_iload_n C dX6_against_17 rfl 3 rfl ?_
        refine pw_if_lt (tgt := 37) C dX6_against_18 (by decide) (fun c18 => ?_) (fun c18 => ?_)
        · have h := fn_pos c18 h
          refine pw_sub [] rfl ?_
          exact hk37 _ h
        · have h := fn_neg c18 h
          refine pw_iload_n C dX6_against_21 rfl 2 rfl ?_
          refine pw_i2l C dX6_against_22 ?_
          refine pw_iload_n C dX6_against_23 rfl 3 rfl ?_
          refine pw_i2l C dX6_against_24 ?_
          refine pw_ladd C dX6_against_25 ?_
          refine pw_aload_n C dX6_against_26 rfl 0 rfl ?_
          refine pw_get (v := .ref (gad G 57)) C iX6 (by decide) (pw_sh_54 _) rfl 6 (by decide) k1 rfl dX6_against_27 ?_
          refine pw_iload_n C dX6_against_30 rfl 1 rfl ?_
          obtain ⟨hi31, h⟩ := fn_ix_s h
          refine pw_iald C (by decide) (pw_sh_57 _) hi31 dX6_against_31 ?_
          refine pw_i2l C dX6_against_32 ?_
          refine pw_lcmp C dX6_against_33 ?_
          refine pw_if_le (tgt := 41) C dX6_against_34 (by decide) (fun c34 => ?_) (fun c34 => ?_)
          · have h := fn_pos c34 h
            refine pw_iconst (v := (0 : Int32)) C dX6_against_41 (by decide) ?_
            exact pw_iret C h dX6_against_42
          · have h := fn_neg c34 h
            refine pw_sub [] rfl ?_
            exact hk37 _ h
  · have h := fn_neg c6 h
    refine pw_iconst (v := (1 : Int32)) C dX6_against_9 (by decide) ?_
    refine pw_goto (tgt := 42) C dX6_against_10 (by decide) ?_
    exact pw_iret C h dX6_against_42
set_option maxHeartbeats 4000000 in
set_option maxRecDepth 100000 in
theorem ct_X6_row (l : Launch) {G : pw_G} (hG : pw_Ok G) {a1 : Int32} {a2 : Int32} {a3 : Int32}  {μ μ' : pw_Mem} {r : Int32} (h : fn_X6_row a1 a2 a3 μ = some (r, μ')) : Met l yX6_row wsX6_row ({ frames := 2, cells := 0, slots := 0, locals := 45 }) (va_Pc [.ref (gad G 54), .int a1, .int a2, .int a3] (pw_Pre G μ)) (va_Qi (fun (r1 : Int32) (u : pw_Mem) => r1 = r ∧ u = μ') (pw_B G) (gA G)) 0 0 (gA G) := by
  refine pw_met (lv := [(0, .ref (gad G 54)), (1, .int a1), (2, .int a2), (3, .int a3)]) (own := RX6) (cc := cX6_row) (maxL := 5) (ret := some .int) hG rfl (by decide) rfl rfl (Nat.le_of_ble_eq_true rfl) ?_
  intro p e s m below meth c C
  have iX6 : ∀ w ∈ u_ws RX6 TX6 16, w ∈ wsX6_row := fun _ h => List.mem_cons_of_mem _ (List.mem_append_right _ (h))
  have k1 := C.2.2.2.2.1 (.constantLong RX6 49 (2)) (List.mem_cons_of_mem _ (List.mem_append_left _ (List.mem_of_getElem? (i := 0) rfl)))
  have k2 := C.2.2.2.2.1 (.constant RX6 51 (-1000001)) (List.mem_cons_of_mem _ (List.mem_append_left _ (List.mem_of_getElem? (i := 1) rfl)))
  have k3 := C.2.2.2.2.1 (.fieldLink RX6 40 "PulpitRoadsModel" "status" "I") (List.mem_cons_of_mem _ (List.mem_append_left _ (List.mem_of_getElem? (i := 2) rfl)))
  have k4 := C.2.2.2.2.1 (.fieldLink RX6 16 "PulpitRoadsModel" "many" "[I") (List.mem_cons_of_mem _ (List.mem_append_left _ (List.mem_of_getElem? (i := 3) rfl)))
  have k5 := C.2.2.2.2.1 (.fieldLink RX6 19 "PulpitRoadsModel" "lane" "[I") (List.mem_cons_of_mem _ (List.mem_append_left _ (List.mem_of_getElem? (i := 4) rfl)))
  have k6 := C.2.2.2.2.1 (.fieldLink RX6 22 "PulpitRoadsModel" "items" "[I") (List.mem_cons_of_mem _ (List.mem_append_left _ (List.mem_of_getElem? (i := 5) rfl)))
  unfold fn_X6_row at h
  refine pw_iload_n C dX6_row_0 rfl 1 rfl ?_
  obtain ⟨r1, m1, hc1, h⟩ := fn_bi_s h
  refine pw_callSi (rest := []) C (ct_X6_isRow l C.2.2.2.2.2.2.2.2 hc1) (va_cwS 1 C.2.2.2.2.1 gX6_row_X6_isRow rfl rfl rfl (by decide +kernel) ⟨Nat.le_of_ble_eq_true rfl, Nat.le_of_ble_eq_true rfl⟩) rfl rfl (Nat.le_of_ble_eq_true rfl) dX6_row_1 ?_
  refine pw_if_eq (tgt := 25) C dX6_row_4 (by decide) (fun c4 => ?_) (fun c4 => ?_)
  · have h := fn_pos c4 h
    refine pw_ldc C k2 dX6_row_25 ?_
    exact pw_iret C h dX6_row_27
  · have h := fn_neg c4 h
    refine pw_iload_n C dX6_row_7 rfl 2 rfl ?_
    refine pw_i2l C dX6_row_8 ?_
    refine pw_lconst (v := (0 : Int64)) C dX6_row_9 (by decide) ?_
    refine pw_ldc2 C k1 dX6_row_10 ?_
    obtain ⟨r13, m13, hc13, h⟩ := fn_bi_s h
    refine pw_callSi (rest := []) C (ct_X6_in l C.2.2.2.2.2.2.2.2 hc13) (va_cwS 3 C.2.2.2.2.1 gX6_row_X6_in rfl rfl rfl (by decide +kernel) ⟨Nat.le_of_ble_eq_true rfl, Nat.le_of_ble_eq_true rfl⟩) rfl rfl (Nat.le_of_ble_eq_true rfl) dX6_row_13 ?_
    refine pw_if_eq (tgt := 25) C dX6_row_16 (by decide) (fun c16 => ?_) (fun c16 => ?_)
    · have h := fn_pos c16 h
      refine pw_ldc C k2 dX6_row_25 ?_
      exact pw_iret C h dX6_row_27
    · have h := fn_neg c16 h
      refine pw_iload_n C dX6_row_19 rfl 3 rfl ?_
      refine pw_bipush (v := (40 : Int32)) C dX6_row_20 (by decide) ?_
      refine pw_icmp_le (tgt := 28) C dX6_row_22 (by decide) (fun c22 => ?_) (fun c22 => ?_)
      · have h := fn_pos c22 h
        refine pw_iload_n C dX6_row_28 rfl 3 rfl ?_
        refine pw_if_ge (tgt := 38) C dX6_row_29 (by decide) (fun c29 => ?_) (fun c29 => ?_)
        · have h := fn_pos c29 h
          refine pw_aload_n C dX6_row_38 rfl 0 rfl ?_
          refine pw_iconst (v := (0 : Int32)) C dX6_row_39 (by decide) ?_
          refine pw_put (host := "PulpitRoads") (ty := .int) C iX6 tyX6 tyX6_ok nmX6 (by decide) (pw_sh_54 _) rfl 5 (by decide) (pw_sh_54 _) k3 rfl (by decide +kernel) (fn_int _) (Nat.le_of_ble_eq_true rfl) dX6_row_40 ?_
          refine pw_aload_n C dX6_row_43 rfl 0 rfl ?_
          refine pw_get (v := .ref (gad G 57)) C iX6 (by decide) (pw_sh_54 _) rfl 6 (by decide) k4 rfl dX6_row_44 ?_
          refine pw_iload_n C dX6_row_47 rfl 1 rfl ?_
          refine pw_iload_n C dX6_row_48 rfl 3 rfl ?_
          obtain ⟨hi49, h⟩ := fn_ix_s h
          refine pw_iast C (by decide) pw_sh_57 hi49 dX6_row_49 ?_
          refine pw_aload_n C dX6_row_50 rfl 0 rfl ?_
          refine pw_get (v := .ref (gad G 58)) C iX6 (by decide) (pw_sh_54 _) rfl 7 (by decide) k5 rfl dX6_row_51 ?_
          refine pw_iload_n C dX6_row_54 rfl 1 rfl ?_
          refine pw_iload_n C dX6_row_55 rfl 2 rfl ?_
          obtain ⟨hi56, h⟩ := fn_ix_s h
          refine pw_iast C (by decide) pw_sh_58 hi56 dX6_row_56 ?_
          refine pw_iconst (v := (0 : Int32)) C dX6_row_57 (by decide) ?_
          refine pw_istore (lv' := [(4, .int (0 : Int32)), (0, .ref (gad G 54)), (1, .int a1), (2, .int a2), (3, .int a3)]) C dX6_row_58 (by decide) rfl ?_
          have L60 : ∀ (k : pw_Mem → Option (Int32 × pw_Mem)) (hk : ∀  (m1 : pw_Mem), k m1 = some (r, μ') → pw_Go p l e ({ frames := 2, cells := 0, slots := 0, locals := 45 }) s m (([.ref (gad G 54), .int a1, .int a2, .int a3] : List Value).toArray) below meth c (MQ below (va_Qi (fun (r1 : Int32) (u : pw_Mem) => r1 = r ∧ u = μ') (pw_B G) (gA G)) (([.ref (gad G 54), .int a1, .int a2, .int a3] : List Value).toArray) s 0 0 (gA G)) G 5 86 [(3, .int a3)] [] m1) (n : Nat) (v4 : Int32) (m1 : pw_Mem), fl_X6_row_60 k a1 a3 n v4 m1 = some (r, μ') → pw_Go p l e ({ frames := 2, cells := 0, slots := 0, locals := 45 }) s m (([.ref (gad G 54), .int a1, .int a2, .int a3] : List Value).toArray) below meth c (MQ below (va_Qi (fun (r1 : Int32) (u : pw_Mem) => r1 = r ∧ u = μ') (pw_B G) (gA G)) (([.ref (gad G 54), .int a1, .int a2, .int a3] : List Value).toArray) s 0 0 (gA G)) G 5 60 [(0, .ref (gad G 54)), (1, .int a1), (3, .int a3), (4, .int v4)] [] m1 := by
            intro k hk n
            induction n with
            | zero => intro v4 m1 h; exact nomatch (show (none : Option (Int32 × pw_Mem)) = some _ from h)
            | succ n ih =>
              intro v4 m1 h
              rw [fl_X6_row_60] at h
              refine pw_iload C dX6_row_60 3 rfl ?_
              refine pw_bipush (v := (40 : Int32)) C dX6_row_62 (by decide) ?_
              refine pw_icmp_ge (tgt := 86) C dX6_row_64 (by decide) (fun c64 => ?_) (fun c64 => ?_)
              · have h := fn_pos c64 h
                refine pw_sub [2] rfl ?_
                exact hk _ h
              · have h := fn_neg c64 h
                refine pw_aload_n C dX6_row_67 rfl 0 rfl ?_
                refine pw_get (v := .ref (gad G 59)) C iX6 (by decide) (pw_sh_54 _) rfl 8 (by decide) k6 rfl dX6_row_68 ?_
                refine pw_bipush (v := (40 : Int32)) C dX6_row_71 (by decide) ?_
                refine pw_iload_n C dX6_row_73 rfl 1 rfl ?_
                refine pw_imul C dX6_row_74 ?_
                refine pw_iload C dX6_row_75 3 rfl ?_
                refine pw_iadd C dX6_row_77 ?_
                refine pw_iconst (v := (0 : Int32)) C dX6_row_78 (by decide) ?_
                obtain ⟨hi79, h⟩ := fn_ix_s h
                refine pw_iast C (by decide) pw_sh_59 hi79 dX6_row_79 ?_
                refine pw_iinc (v := (v4 + 1)) (lv' := [(4, .int (v4 + 1)), (0, .ref (gad G 54)), (1, .int a1), (3, .int a3)]) C dX6_row_80 (q := 3) rfl rfl (by decide) rfl ?_
                refine pw_goto (tgt := 60) C dX6_row_83 (by decide) ?_
                refine pw_sub [1, 2, 3, 0] rfl ?_
                exact ih _ _ h
          refine pw_sub [1, 2, 4, 0] rfl ?_
          refine L60 _ (fun m86 h => ?_) _ _ _ h
          refine pw_iload_n C dX6_row_86 rfl 0 rfl ?_
          exact pw_iret C h dX6_row_87
        · have h := fn_neg c29 h
          refine pw_aload_n C dX6_row_32 rfl 0 rfl ?_
          refine pw_iconst (v := (4 : Int32)) C dX6_row_33 (by decide) ?_
          obtain ⟨r34, m34, hc34, h⟩ := fn_bi_s h
          refine pw_callVi (rest := []) C (by decide) (pw_sh_54 _) rfl (ct_X6_finds l C.2.2.2.2.2.2.2.2 hc34) (cwV 1 C.2.2.2.2.1 gX6_row_X6_finds rfl rfl rfl (by decide +kernel) ⟨Nat.le_of_ble_eq_true rfl, Nat.le_of_ble_eq_true rfl⟩) rfl rfl (Nat.le_of_ble_eq_true rfl) dX6_row_34 ?_
          exact pw_iret C h dX6_row_37
      · have h := fn_neg c22 h
        refine pw_ldc C k2 dX6_row_25 ?_
        exact pw_iret C h dX6_row_27
set_option maxHeartbeats 4000000 in
set_option maxRecDepth 100000 in
theorem ct_X6_set (l : Launch) {G : pw_G} (hG : pw_Ok G) {a1 : Int32} {a2 : Int32} {a3 : Int32}  {μ μ' : pw_Mem} {r : Int32} (h : fn_X6_set a1 a2 a3 μ = some (r, μ')) : Met l yX6_set wsX6_set ({ frames := 2, cells := 0, slots := 0, locals := 45 }) (va_Pc [.ref (gad G 54), .int a1, .int a2, .int a3] (pw_Pre G μ)) (va_Qi (fun (r1 : Int32) (u : pw_Mem) => r1 = r ∧ u = μ') (pw_B G) (gA G)) 0 0 (gA G) := by
  refine pw_met (lv := [(0, .ref (gad G 54)), (1, .int a1), (2, .int a2), (3, .int a3)]) (own := RX6) (cc := cX6_set) (maxL := 5) (ret := some .int) hG rfl (by decide) rfl rfl (Nat.le_of_ble_eq_true rfl) ?_
  intro p e s m below meth c C
  have iX6 : ∀ w ∈ u_ws RX6 TX6 16, w ∈ wsX6_set := fun _ h => List.mem_cons_of_mem _ (List.mem_append_right _ (h))
  have k1 := C.2.2.2.2.1 (.constant RX6 51 (-1000001)) (List.mem_cons_of_mem _ (List.mem_append_left _ (List.mem_of_getElem? (i := 0) rfl)))
  have k2 := C.2.2.2.2.1 (.fieldLink RX6 40 "PulpitRoadsModel" "status" "I") (List.mem_cons_of_mem _ (List.mem_append_left _ (List.mem_of_getElem? (i := 1) rfl)))
  have k3 := C.2.2.2.2.1 (.fieldLink RX6 22 "PulpitRoadsModel" "items" "[I") (List.mem_cons_of_mem _ (List.mem_append_left _ (List.mem_of_getElem? (i := 2) rfl)))
  have k4 := C.2.2.2.2.1 (.fieldLink RX6 19 "PulpitRoadsModel" "lane" "[I") (List.mem_cons_of_mem _ (List.mem_append_left _ (List.mem_of_getElem? (i := 3) rfl)))
  unfold fn_X6_set at h
  refine pw_iload_n C dX6_set_0 rfl 1 rfl ?_
  obtain ⟨r1, m1, hc1, h⟩ := fn_bi_s h
  refine pw_callSi (rest := []) C (ct_X6_isRow l C.2.2.2.2.2.2.2.2 hc1) (va_cwS 1 C.2.2.2.2.1 gX6_set_X6_isRow rfl rfl rfl (by decide +kernel) ⟨Nat.le_of_ble_eq_true rfl, Nat.le_of_ble_eq_true rfl⟩) rfl rfl (Nat.le_of_ble_eq_true rfl) dX6_set_1 ?_
  refine pw_if_ne (tgt := 10) C dX6_set_4 (by decide) (fun c4 => ?_) (fun c4 => ?_)
  · have h := fn_pos c4 h
    refine pw_aload_n C dX6_set_10 rfl 0 rfl ?_
    refine pw_iload_n C dX6_set_11 rfl 1 rfl ?_
    refine pw_iload_n C dX6_set_12 rfl 2 rfl ?_
    refine pw_iconst (v := (1 : Int32)) C dX6_set_13 (by decide) ?_
    obtain ⟨r14, m14, hc14, h⟩ := fn_bi_s h
    refine pw_callVi (rest := []) C (by decide) (pw_sh_54 _) rfl (ct_X6_against l C.2.2.2.2.2.2.2.2 hc14) (cwV 3 C.2.2.2.2.1 gX6_set_X6_against rfl rfl rfl (by decide +kernel) ⟨Nat.le_of_ble_eq_true rfl, Nat.le_of_ble_eq_true rfl⟩) rfl rfl (Nat.le_of_ble_eq_true rfl) dX6_set_14 ?_
    refine pw_istore (lv' := [(4, .int r14), (0, .ref (gad G 54)), (1, .int a1), (2, .int a2), (3, .int a3)]) C dX6_set_17 (by decide) rfl ?_
    refine pw_iload C dX6_set_19 0 rfl ?_
    refine pw_if_le (tgt := 31) C dX6_set_21 (by decide) (fun c21 => ?_) (fun c21 => ?_)
    · have h := fn_pos c21 h
      refine pw_aload_n C dX6_set_31 rfl 1 rfl ?_
      refine pw_iconst (v := (0 : Int32)) C dX6_set_32 (by decide) ?_
      refine pw_put (host := "PulpitRoads") (ty := .int) C iX6 tyX6 tyX6_ok nmX6 (by decide) (pw_sh_54 _) rfl 5 (by decide) (pw_sh_54 _) k2 rfl (by decide +kernel) (fn_int _) (Nat.le_of_ble_eq_true rfl) dX6_set_33 ?_
      refine pw_aload_n C dX6_set_36 rfl 1 rfl ?_
      refine pw_get (v := .ref (gad G 59)) C iX6 (by decide) (pw_sh_54 _) rfl 8 (by decide) k3 rfl dX6_set_37 ?_
      refine pw_bipush (v := (40 : Int32)) C dX6_set_40 (by decide) ?_
      refine pw_iload_n C dX6_set_42 rfl 2 rfl ?_
      refine pw_imul C dX6_set_43 ?_
      refine pw_iload_n C dX6_set_44 rfl 3 rfl ?_
      refine pw_iadd C dX6_set_45 ?_
      refine pw_aload_n C dX6_set_46 rfl 1 rfl ?_
      refine pw_get (v := .ref (gad G 58)) C iX6 (by decide) (pw_sh_54 _) rfl 7 (by decide) k4 rfl dX6_set_47 ?_
      refine pw_iload_n C dX6_set_50 rfl 2 rfl ?_
      obtain ⟨hi51, h⟩ := fn_ix_s h
      refine pw_iald C (by decide) (pw_sh_58 _) hi51 dX6_set_51 ?_
      refine fn_jn1_s (fun x76_0 m76 => pw_Go p l e ({ frames := 2, cells := 0, slots := 0, locals := 45 }) s m (([.ref (gad G 54), .int a1, .int a2, .int a3] : List Value).toArray) below meth c (MQ below (va_Qi (fun (r1 : Int32) (u : pw_Mem) => r1 = r ∧ u = μ') (pw_B G) (gA G)) (([.ref (gad G 54), .int a1, .int a2, .int a3] : List Value).toArray) s 0 0 (gA G)) G 5 76 [(0, .ref (gad G 54)), (1, .int a1), (2, .int a2)] [.int x76_0, .int (((40 : Int32) * a1) + a2), .ref (gad G 59)] m76) h (fun x76_0 m76 h => ?_) (fun k76 hk76 h => ?_)
      · obtain ⟨hi76, h⟩ := fn_ix_s h
        refine pw_iast C (by decide) pw_sh_59 hi76 dX6_set_76 ?_
        refine pw_aload_n C dX6_set_77 rfl 0 rfl ?_
        refine pw_get (v := .ref (gad G 59)) C iX6 (by decide) (pw_sh_54 _) rfl 8 (by decide) k3 rfl dX6_set_78 ?_
        refine pw_bipush (v := (40 : Int32)) C dX6_set_81 (by decide) ?_
        refine pw_iload_n C dX6_set_83 rfl 1 rfl ?_
        refine pw_imul C dX6_set_84 ?_
        refine pw_iload_n C dX6_set_85 rfl 2 rfl ?_
        refine pw_iadd C dX6_set_86 ?_
        obtain ⟨hi87, h⟩ := fn_ix_s h
        refine pw_iald C (by decide) (pw_sh_59 _) hi87 dX6_set_87 ?_
        exact pw_iret C h dX6_set_88
      · refine pw_if_ne (tgt := 60) C dX6_set_52 (by decide) (fun c52 => ?_) (fun c52 => ?_)
        · have h := fn_pos c52 h
          refine pw_aload_n C dX6_set_60 rfl 1 rfl ?_
          refine pw_get (v := .ref (gad G 58)) C iX6 (by decide) (pw_sh_54 _) rfl 7 (by decide) k4 rfl dX6_set_61 ?_
          refine pw_iload_n C dX6_set_64 rfl 2 rfl ?_
          obtain ⟨hi65, h⟩ := fn_ix_s h
          refine pw_iald C (by decide) (pw_sh_58 _) hi65 dX6_set_65 ?_
          refine pw_iconst (v := (1 : Int32)) C dX6_set_66 (by decide) ?_
          refine pw_icmp_ne (tgt := 75) C dX6_set_67 (by decide) (fun c67 => ?_) (fun c67 => ?_)
          · have h := fn_pos c67 h
            refine pw_iload_n C dX6_set_75 rfl 4 rfl ?_
            refine pw_sub [1, 2, 3] rfl ?_
            exact hk76 _ _ h
          · have h := fn_neg c67 h
            refine pw_iload_n C dX6_set_70 rfl 4 rfl ?_
            refine pw_i2s C dX6_set_71 ?_
            refine pw_goto (tgt := 76) C dX6_set_72 (by decide) ?_
            refine pw_sub [1, 2, 3] rfl ?_
            exact hk76 _ _ h
        · have h := fn_neg c52 h
          refine pw_iload_n C dX6_set_55 rfl 4 rfl ?_
          refine pw_i2b C dX6_set_56 ?_
          refine pw_goto (tgt := 76) C dX6_set_57 (by decide) ?_
          refine pw_sub [1, 2, 3] rfl ?_
          exact hk76 _ _ h
    · have h := fn_neg c21 h
      refine pw_aload_n C dX6_set_24 rfl 1 rfl ?_
      refine pw_iload C dX6_set_25 0 rfl ?_
      obtain ⟨r27, m27, hc27, h⟩ := fn_bi_s h
      refine pw_callVi (rest := []) C (by decide) (pw_sh_54 _) rfl (ct_X6_finds l C.2.2.2.2.2.2.2.2 hc27) (cwV 1 C.2.2.2.2.1 gX6_set_X6_finds rfl rfl rfl (by decide +kernel) ⟨Nat.le_of_ble_eq_true rfl, Nat.le_of_ble_eq_true rfl⟩) rfl rfl (Nat.le_of_ble_eq_true rfl) dX6_set_27 ?_
      exact pw_iret C h dX6_set_30
  · have h := fn_neg c4 h
    refine pw_ldc C k1 dX6_set_7 ?_
    exact pw_iret C h dX6_set_9
set_option maxHeartbeats 4000000 in
set_option maxRecDepth 100000 in
theorem ct_X6_copy (l : Launch) {G : pw_G} (hG : pw_Ok G) {a1 : Int32} {a2 : Int32} {a3 : Int32} {a4 : Int32} {a5 : Int32}  {μ μ' : pw_Mem} {r : Int32} (h : fn_X6_copy a1 a2 a3 a4 a5 μ = some (r, μ')) : Met l yX6_copy wsX6_copy ({ frames := 2, cells := 0, slots := 0, locals := 45 }) (va_Pc [.ref (gad G 54), .int a1, .int a2, .int a3, .int a4, .int a5] (pw_Pre G μ)) (va_Qi (fun (r1 : Int32) (u : pw_Mem) => r1 = r ∧ u = μ') (pw_B G) (gA G)) 0 0 (gA G) := by
  refine pw_met (lv := [(0, .ref (gad G 54)), (1, .int a1), (2, .int a2), (3, .int a3), (4, .int a4), (5, .int a5)]) (own := RX6) (cc := cX6_copy) (maxL := 7) (ret := some .int) hG rfl (by decide) rfl rfl (Nat.le_of_ble_eq_true rfl) ?_
  intro p e s m below meth c C
  have iX6 : ∀ w ∈ u_ws RX6 TX6 16, w ∈ wsX6_copy := fun _ h => List.mem_cons_of_mem _ (List.mem_append_right _ (h))
  have k1 := C.2.2.2.2.1 (.constant RX6 51 (-1000001)) (List.mem_cons_of_mem _ (List.mem_append_left _ (List.mem_of_getElem? (i := 0) rfl)))
  have k2 := C.2.2.2.2.1 (.fieldLink RX6 16 "PulpitRoadsModel" "many" "[I") (List.mem_cons_of_mem _ (List.mem_append_left _ (List.mem_of_getElem? (i := 1) rfl)))
  have k3 := C.2.2.2.2.1 (.fieldLink RX6 19 "PulpitRoadsModel" "lane" "[I") (List.mem_cons_of_mem _ (List.mem_append_left _ (List.mem_of_getElem? (i := 2) rfl)))
  have k4 := C.2.2.2.2.1 (.fieldLink RX6 40 "PulpitRoadsModel" "status" "I") (List.mem_cons_of_mem _ (List.mem_append_left _ (List.mem_of_getElem? (i := 3) rfl)))
  have k5 := C.2.2.2.2.1 (.fieldLink RX6 25 "PulpitRoadsModel" "held" "[I") (List.mem_cons_of_mem _ (List.mem_append_left _ (List.mem_of_getElem? (i := 4) rfl)))
  have k6 := C.2.2.2.2.1 (.fieldLink RX6 22 "PulpitRoadsModel" "items" "[I") (List.mem_cons_of_mem _ (List.mem_append_left _ (List.mem_of_getElem? (i := 5) rfl)))
  unfold fn_X6_copy at h
  refine pw_iload_n C dX6_copy_0 rfl 1 rfl ?_
  obtain ⟨r1, m1, hc1, h⟩ := fn_bi_s h
  refine pw_callSi (rest := []) C (ct_X6_isRow l C.2.2.2.2.2.2.2.2 hc1) (va_cwS 1 C.2.2.2.2.1 gX6_copy_X6_isRow rfl rfl rfl (by decide +kernel) ⟨Nat.le_of_ble_eq_true rfl, Nat.le_of_ble_eq_true rfl⟩) rfl rfl (Nat.le_of_ble_eq_true rfl) dX6_copy_1 ?_
  refine pw_if_eq (tgt := 14) C dX6_copy_4 (by decide) (fun c4 => ?_) (fun c4 => ?_)
  · have h := fn_pos c4 h
    refine pw_ldc C k1 dX6_copy_14 ?_
    exact pw_iret C h dX6_copy_16
  · have h := fn_neg c4 h
    refine pw_iload_n C dX6_copy_7 rfl 3 rfl ?_
    obtain ⟨r8, m8, hc8, h⟩ := fn_bi_s h
    refine pw_callSi (rest := []) C (ct_X6_isRow l C.2.2.2.2.2.2.2.2 hc8) (va_cwS 1 C.2.2.2.2.1 gX6_copy_X6_isRow rfl rfl rfl (by decide +kernel) ⟨Nat.le_of_ble_eq_true rfl, Nat.le_of_ble_eq_true rfl⟩) rfl rfl (Nat.le_of_ble_eq_true rfl) dX6_copy_8 ?_
    refine pw_if_ne (tgt := 17) C dX6_copy_11 (by decide) (fun c11 => ?_) (fun c11 => ?_)
    · have h := fn_pos c11 h
      refine pw_aload_n C dX6_copy_17 rfl 0 rfl ?_
      refine pw_get (v := .ref (gad G 57)) C iX6 (by decide) (pw_sh_54 _) rfl 6 (by decide) k2 rfl dX6_copy_18 ?_
      refine pw_iload_n C dX6_copy_21 rfl 1 rfl ?_
      obtain ⟨hi22, h⟩ := fn_ix_s h
      refine pw_iald C (by decide) (pw_sh_57 _) hi22 dX6_copy_22 ?_
      refine pw_if_lt (tgt := 35) C dX6_copy_23 (by decide) (fun c23 => ?_) (fun c23 => ?_)
      · have h := fn_pos c23 h
        refine pw_aload_n C dX6_copy_35 rfl 0 rfl ?_
        refine pw_iconst (v := (1 : Int32)) C dX6_copy_36 (by decide) ?_
        obtain ⟨r37, m37, hc37, h⟩ := fn_bi_s h
        refine pw_callVi (rest := []) C (by decide) (pw_sh_54 _) rfl (ct_X6_finds l C.2.2.2.2.2.2.2.2 hc37) (cwV 1 C.2.2.2.2.1 gX6_copy_X6_finds rfl rfl rfl (by decide +kernel) ⟨Nat.le_of_ble_eq_true rfl, Nat.le_of_ble_eq_true rfl⟩) rfl rfl (Nat.le_of_ble_eq_true rfl) dX6_copy_37 ?_
        exact pw_iret C h dX6_copy_40
      · have h := fn_neg c23 h
        refine pw_aload_n C dX6_copy_26 rfl 0 rfl ?_
        refine pw_get (v := .ref (gad G 57)) C iX6 (by decide) (pw_sh_54 _) rfl 6 (by decide) k2 rfl dX6_copy_27 ?_
        refine pw_iload_n C dX6_copy_30 rfl 3 rfl ?_
        obtain ⟨hi31, h⟩ := fn_ix_s h
        refine pw_iald C (by decide) (pw_sh_57 _) hi31 dX6_copy_31 ?_
        refine pw_if_ge (tgt := 41) C dX6_copy_32 (by decide) (fun c32 => ?_) (fun c32 => ?_)
        · have h := fn_pos c32 h
          refine pw_aload_n C dX6_copy_41 rfl 0 rfl ?_
          refine pw_get (v := .ref (gad G 58)) C iX6 (by decide) (pw_sh_54 _) rfl 7 (by decide) k3 rfl dX6_copy_42 ?_
          refine pw_iload_n C dX6_copy_45 rfl 1 rfl ?_
          obtain ⟨hi46, h⟩ := fn_ix_s h
          refine pw_iald C (by decide) (pw_sh_58 _) hi46 dX6_copy_46 ?_
          refine pw_aload_n C dX6_copy_47 rfl 0 rfl ?_
          refine pw_get (v := .ref (gad G 58)) C iX6 (by decide) (pw_sh_54 _) rfl 7 (by decide) k3 rfl dX6_copy_48 ?_
          refine pw_iload_n C dX6_copy_51 rfl 3 rfl ?_
          obtain ⟨hi52, h⟩ := fn_ix_s h
          refine pw_iald C (by decide) (pw_sh_58 _) hi52 dX6_copy_52 ?_
          refine pw_icmp_eq (tgt := 62) C dX6_copy_53 (by decide) (fun c53 => ?_) (fun c53 => ?_)
          · have h := fn_pos c53 h
            refine pw_aload_n C dX6_copy_62 rfl 0 rfl ?_
            refine pw_iload_n C dX6_copy_63 rfl 1 rfl ?_
            refine pw_iload_n C dX6_copy_64 rfl 2 rfl ?_
            refine pw_iload C dX6_copy_65 5 rfl ?_
            obtain ⟨r67, m67, hc67, h⟩ := fn_bi_s h
            refine pw_callVi (rest := []) C (by decide) (pw_sh_54 _) rfl (ct_X6_against l C.2.2.2.2.2.2.2.2 hc67) (cwV 3 C.2.2.2.2.1 gX6_copy_X6_against rfl rfl rfl (by decide +kernel) ⟨Nat.le_of_ble_eq_true rfl, Nat.le_of_ble_eq_true rfl⟩) rfl rfl (Nat.le_of_ble_eq_true rfl) dX6_copy_67 ?_
            refine pw_if_gt (tgt := 85) C dX6_copy_70 (by decide) (fun c70 => ?_) (fun c70 => ?_)
            · have h := fn_pos c70 h
              refine pw_aload_n C dX6_copy_85 rfl 0 rfl ?_
              refine pw_iconst (v := (2 : Int32)) C dX6_copy_86 (by decide) ?_
              obtain ⟨r87, m87, hc87, h⟩ := fn_bi_s h
              refine pw_callVi (rest := []) C (by decide) (pw_sh_54 _) rfl (ct_X6_finds l C.2.2.2.2.2.2.2.2 hc87) (cwV 1 C.2.2.2.2.1 gX6_copy_X6_finds rfl rfl rfl (by decide +kernel) ⟨Nat.le_of_ble_eq_true rfl, Nat.le_of_ble_eq_true rfl⟩) rfl rfl (Nat.le_of_ble_eq_true rfl) dX6_copy_87 ?_
              exact pw_iret C h dX6_copy_90
            · have h := fn_neg c70 h
              refine pw_aload_n C dX6_copy_73 rfl 0 rfl ?_
              refine pw_iload_n C dX6_copy_74 rfl 3 rfl ?_
              refine pw_iload C dX6_copy_75 4 rfl ?_
              refine pw_iload C dX6_copy_77 5 rfl ?_
              obtain ⟨r79, m79, hc79, h⟩ := fn_bi_s h
              refine pw_callVi (rest := []) C (by decide) (pw_sh_54 _) rfl (ct_X6_against l C.2.2.2.2.2.2.2.2 hc79) (cwV 3 C.2.2.2.2.1 gX6_copy_X6_against rfl rfl rfl (by decide +kernel) ⟨Nat.le_of_ble_eq_true rfl, Nat.le_of_ble_eq_true rfl⟩) rfl rfl (Nat.le_of_ble_eq_true rfl) dX6_copy_79 ?_
              refine pw_if_le (tgt := 91) C dX6_copy_82 (by decide) (fun c82 => ?_) (fun c82 => ?_)
              · have h := fn_pos c82 h
                refine pw_aload_n C dX6_copy_91 rfl 0 rfl ?_
                refine pw_iconst (v := (0 : Int32)) C dX6_copy_92 (by decide) ?_
                refine pw_put (host := "PulpitRoads") (ty := .int) C iX6 tyX6 tyX6_ok nmX6 (by decide) (pw_sh_54 _) rfl 5 (by decide) (pw_sh_54 _) k4 rfl (by decide +kernel) (fn_int _) (Nat.le_of_ble_eq_true rfl) dX6_copy_93 ?_
                refine pw_iconst (v := (0 : Int32)) C dX6_copy_96 (by decide) ?_
                refine pw_istore (lv' := [(6, .int (0 : Int32)), (0, .ref (gad G 54)), (1, .int a1), (2, .int a2), (3, .int a3), (4, .int a4), (5, .int a5)]) C dX6_copy_97 (by decide) rfl ?_
                have L99 : ∀ (k : pw_Mem → Option (Int32 × pw_Mem)) (hk : ∀  (m1 : pw_Mem), k m1 = some (r, μ') → pw_Go p l e ({ frames := 2, cells := 0, slots := 0, locals := 45 }) s m (([.ref (gad G 54), .int a1, .int a2, .int a3, .int a4, .int a5] : List Value).toArray) below meth c (MQ below (va_Qi (fun (r1 : Int32) (u : pw_Mem) => r1 = r ∧ u = μ') (pw_B G) (gA G)) (([.ref (gad G 54), .int a1, .int a2, .int a3, .int a4, .int a5] : List Value).toArray) s 0 0 (gA G)) G 7 133 [(0, .ref (gad G 54)), (3, .int a3), (4, .int a4), (5, .int a5)] [] m1) (n : Nat) (v6 : Int32) (m1 : pw_Mem), fl_X6_copy_99 k a1 a2 a3 a4 a5 n v6 m1 = some (r, μ') → pw_Go p l e ({ frames := 2, cells := 0, slots := 0, locals := 45 }) s m (([.ref (gad G 54), .int a1, .int a2, .int a3, .int a4, .int a5] : List Value).toArray) below meth c (MQ below (va_Qi (fun (r1 : Int32) (u : pw_Mem) => r1 = r ∧ u = μ') (pw_B G) (gA G)) (([.ref (gad G 54), .int a1, .int a2, .int a3, .int a4, .int a5] : List Value).toArray) s 0 0 (gA G)) G 7 99 [(0, .ref (gad G 54)), (1, .int a1), (2, .int a2), (3, .int a3), (4, .int a4), (5, .int a5), (6, .int v6)] [] m1 := by
                  intro k hk n
                  induction n with
                  | zero => intro v6 m1 h; exact nomatch (show (none : Option (Int32 × pw_Mem)) = some _ from h)
                  | succ n ih =>
                    intro v6 m1 h
                    rw [fl_X6_copy_99] at h
                    refine pw_iload C dX6_copy_99 6 rfl ?_
                    refine pw_iload C dX6_copy_101 5 rfl ?_
                    refine pw_icmp_ge (tgt := 133) C dX6_copy_103 (by decide) (fun c103 => ?_) (fun c103 => ?_)
                    · have h := fn_pos c103 h
                      refine pw_sub [0, 3, 4, 5] rfl ?_
                      exact hk _ h
                    · have h := fn_neg c103 h
                      refine pw_aload_n C dX6_copy_106 rfl 0 rfl ?_
                      refine pw_get (v := .ref (gad G 60)) C iX6 (by decide) (pw_sh_54 _) rfl 9 (by decide) k5 rfl dX6_copy_107 ?_
                      refine pw_iload C dX6_copy_110 6 rfl ?_
                      refine pw_aload_n C dX6_copy_112 rfl 0 rfl ?_
                      refine pw_get (v := .ref (gad G 59)) C iX6 (by decide) (pw_sh_54 _) rfl 8 (by decide) k6 rfl dX6_copy_113 ?_
                      refine pw_bipush (v := (40 : Int32)) C dX6_copy_116 (by decide) ?_
                      refine pw_iload_n C dX6_copy_118 rfl 1 rfl ?_
                      refine pw_imul C dX6_copy_119 ?_
                      refine pw_iload_n C dX6_copy_120 rfl 2 rfl ?_
                      refine pw_iadd C dX6_copy_121 ?_
                      refine pw_iload C dX6_copy_122 6 rfl ?_
                      refine pw_iadd C dX6_copy_124 ?_
                      obtain ⟨hi125, h⟩ := fn_ix_s h
                      refine pw_iald C (by decide) (pw_sh_59 _) hi125 dX6_copy_125 ?_
                      obtain ⟨hi126, h⟩ := fn_ix_s h
                      refine pw_iast C (by decide) pw_sh_60 hi126 dX6_copy_126 ?_
                      refine pw_iinc (v := (v6 + 1)) (lv' := [(6, .int (v6 + 1)), (0, .ref (gad G 54)), (1, .int a1), (2, .int a2), (3, .int a3), (4, .int a4), (5, .int a5)]) C dX6_copy_127 (q := 6) rfl rfl (by decide) rfl ?_
                      refine pw_goto (tgt := 99) C dX6_copy_130 (by decide) ?_
                      refine pw_sub [1, 2, 3, 4, 5, 6, 0] rfl ?_
                      exact ih _ _ h
                refine pw_sub [1, 2, 3, 4, 5, 6, 0] rfl ?_
                refine L99 _ (fun m133 h => ?_) _ _ _ h
                refine pw_iconst (v := (0 : Int32)) C dX6_copy_133 (by decide) ?_
                refine pw_istore (lv' := [(6, .int (0 : Int32)), (0, .ref (gad G 54)), (3, .int a3), (4, .int a4), (5, .int a5)]) C dX6_copy_134 (by decide) rfl ?_
                have L136 : ∀ (k : pw_Mem → Option (Int32 × pw_Mem)) (hk : ∀  (m1 : pw_Mem), k m1 = some (r, μ') → pw_Go p l e ({ frames := 2, cells := 0, slots := 0, locals := 45 }) s m (([.ref (gad G 54), .int a1, .int a2, .int a3, .int a4, .int a5] : List Value).toArray) below meth c (MQ below (va_Qi (fun (r1 : Int32) (u : pw_Mem) => r1 = r ∧ u = μ') (pw_B G) (gA G)) (([.ref (gad G 54), .int a1, .int a2, .int a3, .int a4, .int a5] : List Value).toArray) s 0 0 (gA G)) G 7 171 [(5, .int a5)] [] m1) (n : Nat) (v6 : Int32) (m1 : pw_Mem), fl_X6_copy_136 k a3 a4 a5 n v6 m1 = some (r, μ') → pw_Go p l e ({ frames := 2, cells := 0, slots := 0, locals := 45 }) s m (([.ref (gad G 54), .int a1, .int a2, .int a3, .int a4, .int a5] : List Value).toArray) below meth c (MQ below (va_Qi (fun (r1 : Int32) (u : pw_Mem) => r1 = r ∧ u = μ') (pw_B G) (gA G)) (([.ref (gad G 54), .int a1, .int a2, .int a3, .int a4, .int a5] : List Value).toArray) s 0 0 (gA G)) G 7 136 [(0, .ref (gad G 54)), (3, .int a3), (4, .int a4), (5, .int a5), (6, .int v6)] [] m1 := by
                  intro k hk n
                  induction n with
                  | zero => intro v6 m1 h; exact nomatch (show (none : Option (Int32 × pw_Mem)) = some _ from h)
                  | succ n ih =>
                    intro v6 m1 h
                    rw [fl_X6_copy_136] at h
                    refine pw_iload C dX6_copy_136 4 rfl ?_
                    refine pw_iload C dX6_copy_138 3 rfl ?_
                    refine pw_icmp_ge (tgt := 171) C dX6_copy_140 (by decide) (fun c140 => ?_) (fun c140 => ?_)
                    · have h := fn_pos c140 h
                      refine pw_sub [3] rfl ?_
                      exact hk _ h
                    · have h := fn_neg c140 h
                      refine pw_aload_n C dX6_copy_143 rfl 0 rfl ?_
                      refine pw_get (v := .ref (gad G 59)) C iX6 (by decide) (pw_sh_54 _) rfl 8 (by decide) k6 rfl dX6_copy_144 ?_
                      refine pw_bipush (v := (40 : Int32)) C dX6_copy_147 (by decide) ?_
                      refine pw_iload_n C dX6_copy_149 rfl 1 rfl ?_
                      refine pw_imul C dX6_copy_150 ?_
                      refine pw_iload C dX6_copy_151 2 rfl ?_
                      refine pw_iadd C dX6_copy_153 ?_
                      refine pw_iload C dX6_copy_154 4 rfl ?_
                      refine pw_iadd C dX6_copy_156 ?_
                      refine pw_aload_n C dX6_copy_157 rfl 0 rfl ?_
                      refine pw_get (v := .ref (gad G 60)) C iX6 (by decide) (pw_sh_54 _) rfl 9 (by decide) k5 rfl dX6_copy_158 ?_
                      refine pw_iload C dX6_copy_161 4 rfl ?_
                      obtain ⟨hi163, h⟩ := fn_ix_s h
                      refine pw_iald C (by decide) (pw_sh_60 _) hi163 dX6_copy_163 ?_
                      obtain ⟨hi164, h⟩ := fn_ix_s h
                      refine pw_iast C (by decide) pw_sh_59 hi164 dX6_copy_164 ?_
                      refine pw_iinc (v := (v6 + 1)) (lv' := [(6, .int (v6 + 1)), (0, .ref (gad G 54)), (3, .int a3), (4, .int a4), (5, .int a5)]) C dX6_copy_165 (q := 4) rfl rfl (by decide) rfl ?_
                      refine pw_goto (tgt := 136) C dX6_copy_168 (by decide) ?_
                      refine pw_sub [1, 2, 3, 4, 0] rfl ?_
                      exact ih _ _ h
                refine pw_sub [1, 2, 3, 4, 0] rfl ?_
                refine L136 _ (fun m171 h => ?_) _ _ _ h
                refine pw_iload C dX6_copy_171 0 rfl ?_
                exact pw_iret C h dX6_copy_173
              · have h := fn_neg c82 h
                refine pw_aload_n C dX6_copy_85 rfl 0 rfl ?_
                refine pw_iconst (v := (2 : Int32)) C dX6_copy_86 (by decide) ?_
                obtain ⟨r87, m87, hc87, h⟩ := fn_bi_s h
                refine pw_callVi (rest := []) C (by decide) (pw_sh_54 _) rfl (ct_X6_finds l C.2.2.2.2.2.2.2.2 hc87) (cwV 1 C.2.2.2.2.1 gX6_copy_X6_finds rfl rfl rfl (by decide +kernel) ⟨Nat.le_of_ble_eq_true rfl, Nat.le_of_ble_eq_true rfl⟩) rfl rfl (Nat.le_of_ble_eq_true rfl) dX6_copy_87 ?_
                exact pw_iret C h dX6_copy_90
          · have h := fn_neg c53 h
            refine pw_aload_n C dX6_copy_56 rfl 0 rfl ?_
            refine pw_iconst (v := (5 : Int32)) C dX6_copy_57 (by decide) ?_
            obtain ⟨r58, m58, hc58, h⟩ := fn_bi_s h
            refine pw_callVi (rest := []) C (by decide) (pw_sh_54 _) rfl (ct_X6_finds l C.2.2.2.2.2.2.2.2 hc58) (cwV 1 C.2.2.2.2.1 gX6_copy_X6_finds rfl rfl rfl (by decide +kernel) ⟨Nat.le_of_ble_eq_true rfl, Nat.le_of_ble_eq_true rfl⟩) rfl rfl (Nat.le_of_ble_eq_true rfl) dX6_copy_58 ?_
            exact pw_iret C h dX6_copy_61
        · have h := fn_neg c32 h
          refine pw_aload_n C dX6_copy_35 rfl 0 rfl ?_
          refine pw_iconst (v := (1 : Int32)) C dX6_copy_36 (by decide) ?_
          obtain ⟨r37, m37, hc37, h⟩ := fn_bi_s h
          refine pw_callVi (rest := []) C (by decide) (pw_sh_54 _) rfl (ct_X6_finds l C.2.2.2.2.2.2.2.2 hc37) (cwV 1 C.2.2.2.2.1 gX6_copy_X6_finds rfl rfl rfl (by decide +kernel) ⟨Nat.le_of_ble_eq_true rfl, Nat.le_of_ble_eq_true rfl⟩) rfl rfl (Nat.le_of_ble_eq_true rfl) dX6_copy_37 ?_
          exact pw_iret C h dX6_copy_40
    · have h := fn_neg c11 h
      refine pw_ldc C k1 dX6_copy_14 ?_
      exact pw_iret C h dX6_copy_16
set_option maxHeartbeats 4000000 in
set_option maxRecDepth 100000 in
theorem ct_X6_drop (l : Launch) {G : pw_G} (hG : pw_Ok G) {a1 : Int32}  {μ μ' : pw_Mem} {r : Int32} (h : fn_X6_drop a1 μ = some (r, μ')) : Met l yX6_drop wsX6_drop ({ frames := 2, cells := 0, slots := 0, locals := 45 }) (va_Pc [.ref (gad G 54), .int a1] (pw_Pre G μ)) (va_Qi (fun (r1 : Int32) (u : pw_Mem) => r1 = r ∧ u = μ') (pw_B G) (gA G)) 0 0 (gA G) := by
  refine pw_met (lv := [(0, .ref (gad G 54)), (1, .int a1)]) (own := RX6) (cc := cX6_drop) (maxL := 3) (ret := some .int) hG rfl (by decide) rfl rfl (Nat.le_of_ble_eq_true rfl) ?_
  intro p e s m below meth c C
  have iX6 : ∀ w ∈ u_ws RX6 TX6 16, w ∈ wsX6_drop := fun _ h => List.mem_cons_of_mem _ (List.mem_append_right _ (h))
  have k1 := C.2.2.2.2.1 (.constant RX6 51 (-1000001)) (List.mem_cons_of_mem _ (List.mem_append_left _ (List.mem_of_getElem? (i := 0) rfl)))
  have k2 := C.2.2.2.2.1 (.fieldLink RX6 16 "PulpitRoadsModel" "many" "[I") (List.mem_cons_of_mem _ (List.mem_append_left _ (List.mem_of_getElem? (i := 1) rfl)))
  have k3 := C.2.2.2.2.1 (.fieldLink RX6 40 "PulpitRoadsModel" "status" "I") (List.mem_cons_of_mem _ (List.mem_append_left _ (List.mem_of_getElem? (i := 2) rfl)))
  unfold fn_X6_drop at h
  refine pw_iload_n C dX6_drop_0 rfl 1 rfl ?_
  obtain ⟨r1, m1, hc1, h⟩ := fn_bi_s h
  refine pw_callSi (rest := []) C (ct_X6_isRow l C.2.2.2.2.2.2.2.2 hc1) (va_cwS 1 C.2.2.2.2.1 gX6_drop_X6_isRow rfl rfl rfl (by decide +kernel) ⟨Nat.le_of_ble_eq_true rfl, Nat.le_of_ble_eq_true rfl⟩) rfl rfl (Nat.le_of_ble_eq_true rfl) dX6_drop_1 ?_
  refine pw_if_ne (tgt := 10) C dX6_drop_4 (by decide) (fun c4 => ?_) (fun c4 => ?_)
  · have h := fn_pos c4 h
    refine pw_aload_n C dX6_drop_10 rfl 0 rfl ?_
    refine pw_get (v := .ref (gad G 57)) C iX6 (by decide) (pw_sh_54 _) rfl 6 (by decide) k2 rfl dX6_drop_11 ?_
    refine pw_iload_n C dX6_drop_14 rfl 1 rfl ?_
    obtain ⟨hi15, h⟩ := fn_ix_s h
    refine pw_iald C (by decide) (pw_sh_57 _) hi15 dX6_drop_15 ?_
    refine pw_if_ge (tgt := 25) C dX6_drop_16 (by decide) (fun c16 => ?_) (fun c16 => ?_)
    · have h := fn_pos c16 h
      refine pw_aload_n C dX6_drop_25 rfl 0 rfl ?_
      refine pw_iconst (v := (0 : Int32)) C dX6_drop_26 (by decide) ?_
      refine pw_put (host := "PulpitRoads") (ty := .int) C iX6 tyX6 tyX6_ok nmX6 (by decide) (pw_sh_54 _) rfl 5 (by decide) (pw_sh_54 _) k3 rfl (by decide +kernel) (fn_int _) (Nat.le_of_ble_eq_true rfl) dX6_drop_27 ?_
      refine pw_aload_n C dX6_drop_30 rfl 0 rfl ?_
      refine pw_get (v := .ref (gad G 57)) C iX6 (by decide) (pw_sh_54 _) rfl 6 (by decide) k2 rfl dX6_drop_31 ?_
      refine pw_iload_n C dX6_drop_34 rfl 1 rfl ?_
      obtain ⟨hi35, h⟩ := fn_ix_s h
      refine pw_iald C (by decide) (pw_sh_57 _) hi35 dX6_drop_35 ?_
      refine pw_istore_n (lv' := [(2, .int ((pw_st m1 54 5 (0 : Int32)) 57 (a1).toNatClampNeg)), (0, .ref (gad G 54)), (1, .int a1)]) C dX6_drop_36 rfl (by decide) rfl ?_
      refine pw_aload_n C dX6_drop_37 rfl 1 rfl ?_
      refine pw_get (v := .ref (gad G 57)) C iX6 (by decide) (pw_sh_54 _) rfl 6 (by decide) k2 rfl dX6_drop_38 ?_
      refine pw_iload_n C dX6_drop_41 rfl 2 rfl ?_
      refine pw_iconst (v := (-1 : Int32)) C dX6_drop_42 (by decide) ?_
      obtain ⟨hi43, h⟩ := fn_ix_s h
      refine pw_iast C (by decide) pw_sh_57 hi43 dX6_drop_43 ?_
      refine pw_iload_n C dX6_drop_44 rfl 0 rfl ?_
      exact pw_iret C h dX6_drop_45
    · have h := fn_neg c16 h
      refine pw_aload_n C dX6_drop_19 rfl 0 rfl ?_
      refine pw_iconst (v := (1 : Int32)) C dX6_drop_20 (by decide) ?_
      obtain ⟨r21, m21, hc21, h⟩ := fn_bi_s h
      refine pw_callVi (rest := []) C (by decide) (pw_sh_54 _) rfl (ct_X6_finds l C.2.2.2.2.2.2.2.2 hc21) (cwV 1 C.2.2.2.2.1 gX6_drop_X6_finds rfl rfl rfl (by decide +kernel) ⟨Nat.le_of_ble_eq_true rfl, Nat.le_of_ble_eq_true rfl⟩) rfl rfl (Nat.le_of_ble_eq_true rfl) dX6_drop_21 ?_
      exact pw_iret C h dX6_drop_24
  · have h := fn_neg c4 h
    refine pw_ldc C k1 dX6_drop_7 ?_
    exact pw_iret C h dX6_drop_9
set_option maxHeartbeats 4000000 in
set_option maxRecDepth 100000 in
theorem ct_X6_feed (l : Launch) {G : pw_G} (hG : pw_Ok G) {a1 : Int32}  {μ μ' : pw_Mem} {r : Int32} (h : fn_X6_feed a1 μ = some (r, μ')) : Met l yX6_feed wsX6_feed ({ frames := 1, cells := 0, slots := 0, locals := 25 }) (va_Pc [.ref (gad G 54), .int a1] (pw_Pre G μ)) (va_Qi (fun (r1 : Int32) (u : pw_Mem) => r1 = r ∧ u = μ') (pw_B G) (gA G)) 0 0 (gA G) := by
  refine pw_met (lv := [(0, .ref (gad G 54)), (1, .int a1)]) (own := RX6) (cc := cX6_feed) (maxL := 2) (ret := some .int) hG rfl (by decide) rfl rfl (Nat.le_of_ble_eq_true rfl) ?_
  intro p e s m below meth c C
  have iX6 : ∀ w ∈ u_ws RX6 TX6 16, w ∈ wsX6_feed := fun _ h => List.mem_cons_of_mem _ (List.mem_append_right _ (h))
  have k1 := C.2.2.2.2.1 (.constantLong RX6 60 (255)) (List.mem_cons_of_mem _ (List.mem_append_left _ (List.mem_of_getElem? (i := 0) rfl)))
  have k2 := C.2.2.2.2.1 (.constant RX6 51 (-1000001)) (List.mem_cons_of_mem _ (List.mem_append_left _ (List.mem_of_getElem? (i := 1) rfl)))
  have k3 := C.2.2.2.2.1 (.fieldLink RX6 62 "PulpitRoadsModel" "taped" "I") (List.mem_cons_of_mem _ (List.mem_append_left _ (List.mem_of_getElem? (i := 2) rfl)))
  have k4 := C.2.2.2.2.1 (.constant RX6 65 (-1000003)) (List.mem_cons_of_mem _ (List.mem_append_left _ (List.mem_of_getElem? (i := 3) rfl)))
  have k5 := C.2.2.2.2.1 (.fieldLink RX6 13 "PulpitRoadsModel" "tape" "[I") (List.mem_cons_of_mem _ (List.mem_append_left _ (List.mem_of_getElem? (i := 4) rfl)))
  unfold fn_X6_feed at h
  refine pw_iload_n C dX6_feed_0 rfl 1 rfl ?_
  refine pw_i2l C dX6_feed_1 ?_
  refine pw_lconst (v := (0 : Int64)) C dX6_feed_2 (by decide) ?_
  refine pw_ldc2 C k1 dX6_feed_3 ?_
  obtain ⟨r6, m6, hc6, h⟩ := fn_bi_s h
  refine pw_callSi (rest := []) C (ct_X6_in l C.2.2.2.2.2.2.2.2 hc6) (va_cwS 3 C.2.2.2.2.1 gX6_feed_X6_in rfl rfl rfl (by decide +kernel) ⟨Nat.le_of_ble_eq_true rfl, Nat.le_of_ble_eq_true rfl⟩) rfl rfl (Nat.le_of_ble_eq_true rfl) dX6_feed_6 ?_
  refine pw_if_ne (tgt := 15) C dX6_feed_9 (by decide) (fun c9 => ?_) (fun c9 => ?_)
  · have h := fn_pos c9 h
    refine pw_aload_n C dX6_feed_15 rfl 0 rfl ?_
    refine pw_get (v := .int (m6 54 3)) C iX6 (by decide) (pw_sh_54 _) rfl 3 (by decide) k3 rfl dX6_feed_16 ?_
    refine pw_bipush (v := (90 : Int32)) C dX6_feed_19 (by decide) ?_
    refine pw_icmp_ne (tgt := 27) C dX6_feed_21 (by decide) (fun c21 => ?_) (fun c21 => ?_)
    · have h := fn_pos c21 h
      refine pw_aload_n C dX6_feed_27 rfl 0 rfl ?_
      refine pw_get (v := .ref (gad G 56)) C iX6 (by decide) (pw_sh_54 _) rfl 2 (by decide) k5 rfl dX6_feed_28 ?_
      refine pw_aload_n C dX6_feed_31 rfl 0 rfl ?_
      refine pw_get (v := .int (m6 54 3)) C iX6 (by decide) (pw_sh_54 _) rfl 3 (by decide) k3 rfl dX6_feed_32 ?_
      refine pw_iload_n C dX6_feed_35 rfl 1 rfl ?_
      obtain ⟨hi36, h⟩ := fn_ix_s h
      refine pw_iast C (by decide) pw_sh_56 hi36 dX6_feed_36 ?_
      refine pw_aload_n C dX6_feed_37 rfl 0 rfl ?_
      refine pw_dup C dX6_feed_38 rfl ?_
      refine pw_get (v := .int ((pw_st m6 56 ((m6 54 3)).toNatClampNeg a1) 54 3)) C iX6 (by decide) (pw_sh_54 _) rfl 3 (by decide) k3 rfl dX6_feed_39 ?_
      refine pw_iconst (v := (1 : Int32)) C dX6_feed_42 (by decide) ?_
      refine pw_iadd C dX6_feed_43 ?_
      refine pw_put (host := "PulpitRoads") (ty := .int) C iX6 tyX6 tyX6_ok nmX6 (by decide) (pw_sh_54 _) rfl 3 (by decide) (pw_sh_54 _) k3 rfl (by decide +kernel) (fn_int _) (Nat.le_of_ble_eq_true rfl) dX6_feed_44 ?_
      refine pw_aload_n C dX6_feed_47 rfl 0 rfl ?_
      refine pw_get (v := .int ((pw_st (pw_st m6 56 ((m6 54 3)).toNatClampNeg a1) 54 3 (((pw_st m6 56 ((m6 54 3)).toNatClampNeg a1) 54 3) + (1 : Int32))) 54 3)) C iX6 (by decide) (pw_sh_54 _) rfl 3 (by decide) k3 rfl dX6_feed_48 ?_
      exact pw_iret C h dX6_feed_51
    · have h := fn_neg c21 h
      refine pw_ldc C k4 dX6_feed_24 ?_
      exact pw_iret C h dX6_feed_26
  · have h := fn_neg c9 h
    refine pw_ldc C k2 dX6_feed_12 ?_
    exact pw_iret C h dX6_feed_14
set_option maxHeartbeats 4000000 in
set_option maxRecDepth 100000 in
theorem ct_X6_here (l : Launch) {G : pw_G} (hG : pw_Ok G)   {μ μ' : pw_Mem} {r : Int32} (h : fn_X6_here μ = some (r, μ')) : Met l yX6_here wsX6_here ({ frames := 0, cells := 0, slots := 0, locals := 0 }) (va_Pc [.ref (gad G 54)] (pw_Pre G μ)) (va_Qi (fun (r1 : Int32) (u : pw_Mem) => r1 = r ∧ u = μ') (pw_B G) (gA G)) 0 0 (gA G) := by
  refine pw_met (lv := [(0, .ref (gad G 54))]) (own := RX6) (cc := cX6_here) (maxL := 1) (ret := some .int) hG rfl (by decide) rfl rfl (Nat.le_of_ble_eq_true rfl) ?_
  intro p e s m below meth c C
  have iX6 : ∀ w ∈ u_ws RX6 TX6 16, w ∈ wsX6_here := fun _ h => List.mem_cons_of_mem _ (List.mem_append_right _ (h))
  have k1 := C.2.2.2.2.1 (.fieldLink RX6 66 "PulpitRoadsModel" "at" "I") (List.mem_cons_of_mem _ (List.mem_append_left _ (List.mem_of_getElem? (i := 0) rfl)))
  have k2 := C.2.2.2.2.1 (.fieldLink RX6 62 "PulpitRoadsModel" "taped" "I") (List.mem_cons_of_mem _ (List.mem_append_left _ (List.mem_of_getElem? (i := 1) rfl)))
  have k3 := C.2.2.2.2.1 (.fieldLink RX6 13 "PulpitRoadsModel" "tape" "[I") (List.mem_cons_of_mem _ (List.mem_append_left _ (List.mem_of_getElem? (i := 2) rfl)))
  unfold fn_X6_here at h
  refine pw_aload_n C dX6_here_0 rfl 0 rfl ?_
  refine pw_get (v := .int (μ 54 10)) C iX6 (by decide) (pw_sh_54 _) rfl 10 (by decide) k1 rfl dX6_here_1 ?_
  refine pw_aload_n C dX6_here_4 rfl 0 rfl ?_
  refine pw_get (v := .int (μ 54 3)) C iX6 (by decide) (pw_sh_54 _) rfl 3 (by decide) k2 rfl dX6_here_5 ?_
  refine pw_icmp_ge (tgt := 23) C dX6_here_8 (by decide) (fun c8 => ?_) (fun c8 => ?_)
  · have h := fn_pos c8 h
    refine pw_iconst (v := (-1 : Int32)) C dX6_here_23 (by decide) ?_
    exact pw_iret C h dX6_here_24
  · have h := fn_neg c8 h
    refine pw_aload_n C dX6_here_11 rfl 0 rfl ?_
    refine pw_get (v := .ref (gad G 56)) C iX6 (by decide) (pw_sh_54 _) rfl 2 (by decide) k3 rfl dX6_here_12 ?_
    refine pw_aload_n C dX6_here_15 rfl 0 rfl ?_
    refine pw_get (v := .int (μ 54 10)) C iX6 (by decide) (pw_sh_54 _) rfl 10 (by decide) k1 rfl dX6_here_16 ?_
    obtain ⟨hi19, h⟩ := fn_ix_s h
    refine pw_iald C (by decide) (pw_sh_56 _) hi19 dX6_here_19 ?_
    refine pw_goto (tgt := 24) C dX6_here_20 (by decide) ?_
    exact pw_iret C h dX6_here_24
set_option maxHeartbeats 4000000 in
set_option maxRecDepth 100000 in
theorem ct_X6_fails (l : Launch) {G : pw_G} (hG : pw_Ok G) {a1 : Int32} {a2 : Int32}  {μ μ' : pw_Mem} {r : Int32} (h : fn_X6_fails a1 a2 μ = some (r, μ')) : Met l yX6_fails wsX6_fails ({ frames := 0, cells := 0, slots := 0, locals := 0 }) (va_Pc [.ref (gad G 54), .int a1, .int a2] (pw_Pre G μ)) (va_Qi (fun (r1 : Int32) (u : pw_Mem) => r1 = r ∧ u = μ') (pw_B G) (gA G)) 0 0 (gA G) := by
  refine pw_met (lv := [(0, .ref (gad G 54)), (1, .int a1), (2, .int a2)]) (own := RX6) (cc := cX6_fails) (maxL := 3) (ret := some .boolean) hG rfl (by decide) rfl rfl (Nat.le_of_ble_eq_true rfl) ?_
  intro p e s m below meth c C
  have iX6 : ∀ w ∈ u_ws RX6 TX6 16, w ∈ wsX6_fails := fun _ h => List.mem_cons_of_mem _ (List.mem_append_right _ (h))
  have k1 := C.2.2.2.2.1 (.fieldLink RX6 69 "PulpitRoadsModel" "faulty" "I") (List.mem_cons_of_mem _ (List.mem_append_left _ (List.mem_of_getElem? (i := 0) rfl)))
  have k2 := C.2.2.2.2.1 (.fieldLink RX6 72 "PulpitRoadsModel" "start" "I") (List.mem_cons_of_mem _ (List.mem_append_left _ (List.mem_of_getElem? (i := 1) rfl)))
  unfold fn_X6_fails at h
  refine pw_aload_n C dX6_fails_0 rfl 0 rfl ?_
  refine pw_iload_n C dX6_fails_1 rfl 1 rfl ?_
  refine pw_put (host := "PulpitRoads") (ty := .int) C iX6 tyX6 tyX6_ok nmX6 (by decide) (pw_sh_54 _) rfl 4 (by decide) (pw_sh_54 _) k1 rfl (by decide +kernel) (fn_int _) (Nat.le_of_ble_eq_true rfl) dX6_fails_2 ?_
  refine pw_aload_n C dX6_fails_5 rfl 0 rfl ?_
  refine pw_iload_n C dX6_fails_6 rfl 2 rfl ?_
  refine pw_put (host := "PulpitRoads") (ty := .int) C iX6 tyX6 tyX6_ok nmX6 (by decide) (pw_sh_54 _) rfl 11 (by decide) (pw_sh_54 _) k2 rfl (by decide +kernel) (fn_int _) (Nat.le_of_ble_eq_true rfl) dX6_fails_7 ?_
  refine pw_iconst (v := (0 : Int32)) C dX6_fails_10 (by decide) ?_
  obtain ⟨hz11, h⟩ := fn_bz_s h
  exact pw_zret C hz11 h dX6_fails_11
set_option maxHeartbeats 4000000 in
set_option maxRecDepth 100000 in
theorem ct_X6_takes (l : Launch) {G : pw_G} (hG : pw_Ok G) {a1 : Int32}  {μ μ' : pw_Mem} {r : Int32} (h : fn_X6_takes a1 μ = some (r, μ')) : Met l yX6_takes wsX6_takes ({ frames := 1, cells := 0, slots := 0, locals := 22 }) (va_Pc [.ref (gad G 54), .int a1] (pw_Pre G μ)) (va_Qi (fun (r1 : Int32) (u : pw_Mem) => r1 = r ∧ u = μ') (pw_B G) (gA G)) 0 0 (gA G) := by
  refine pw_met (lv := [(0, .ref (gad G 54)), (1, .int a1)]) (own := RX6) (cc := cX6_takes) (maxL := 2) (ret := some .boolean) hG rfl (by decide) rfl rfl (Nat.le_of_ble_eq_true rfl) ?_
  intro p e s m below meth c C
  have iX6 : ∀ w ∈ u_ws RX6 TX6 16, w ∈ wsX6_takes := fun _ h => List.mem_cons_of_mem _ (List.mem_append_right _ (h))
  have k1 := C.2.2.2.2.1 (.fieldLink RX6 66 "PulpitRoadsModel" "at" "I") (List.mem_cons_of_mem _ (List.mem_append_left _ (List.mem_of_getElem? (i := 0) rfl)))
  unfold fn_X6_takes at h
  refine pw_aload_n C dX6_takes_0 rfl 0 rfl ?_
  obtain ⟨r1, m1, hc1, h⟩ := fn_bi_s h
  refine pw_callVi (rest := []) C (by decide) (pw_sh_54 _) rfl (ct_X6_here l C.2.2.2.2.2.2.2.2 hc1) (cwV 0 C.2.2.2.2.1 gX6_takes_X6_here rfl rfl rfl (by decide +kernel) ⟨Nat.le_of_ble_eq_true rfl, Nat.le_of_ble_eq_true rfl⟩) rfl rfl (Nat.le_of_ble_eq_true rfl) dX6_takes_1 ?_
  refine pw_iload_n C dX6_takes_4 rfl 1 rfl ?_
  refine pw_icmp_eq (tgt := 18) C dX6_takes_5 (by decide) (fun c5 => ?_) (fun c5 => ?_)
  · have h := fn_pos c5 h
    refine pw_aload_n C dX6_takes_18 rfl 0 rfl ?_
    refine pw_dup C dX6_takes_19 rfl ?_
    refine pw_get (v := .int (m1 54 10)) C iX6 (by decide) (pw_sh_54 _) rfl 10 (by decide) k1 rfl dX6_takes_20 ?_
    refine pw_iconst (v := (1 : Int32)) C dX6_takes_23 (by decide) ?_
    refine pw_iadd C dX6_takes_24 ?_
    refine pw_put (host := "PulpitRoads") (ty := .int) C iX6 tyX6 tyX6_ok nmX6 (by decide) (pw_sh_54 _) rfl 10 (by decide) (pw_sh_54 _) k1 rfl (by decide +kernel) (fn_int _) (Nat.le_of_ble_eq_true rfl) dX6_takes_25 ?_
    refine pw_iconst (v := (1 : Int32)) C dX6_takes_28 (by decide) ?_
    obtain ⟨hz29, h⟩ := fn_bz_s h
    exact pw_zret C hz29 h dX6_takes_29
  · have h := fn_neg c5 h
    refine pw_aload_n C dX6_takes_8 rfl 0 rfl ?_
    refine pw_iconst (v := (1 : Int32)) C dX6_takes_9 (by decide) ?_
    refine pw_aload_n C dX6_takes_10 rfl 0 rfl ?_
    refine pw_get (v := .int (m1 54 10)) C iX6 (by decide) (pw_sh_54 _) rfl 10 (by decide) k1 rfl dX6_takes_11 ?_
    obtain ⟨r14, m14, hc14, h⟩ := fn_bi_s h
    refine pw_callVi (rest := []) C (by decide) (pw_sh_54 _) rfl (ct_X6_fails l C.2.2.2.2.2.2.2.2 hc14) (cwV 2 C.2.2.2.2.1 gX6_takes_X6_fails rfl rfl rfl (by decide +kernel) ⟨Nat.le_of_ble_eq_true rfl, Nat.le_of_ble_eq_true rfl⟩) rfl rfl (Nat.le_of_ble_eq_true rfl) dX6_takes_14 ?_
    obtain ⟨hz17, h⟩ := fn_bz_s h
    exact pw_zret C hz17 h dX6_takes_17
set_option maxHeartbeats 4000000 in
set_option maxRecDepth 100000 in
theorem ct_X6_takesNumber (l : Launch) {G : pw_G} (hG : pw_Ok G) {a1 : Int32} {a2 : Int32}  {μ μ' : pw_Mem} {r : Int32} (h : fn_X6_takesNumber a1 a2 μ = some (r, μ')) : Met l yX6_takesNumber wsX6_takesNumber ({ frames := 1, cells := 0, slots := 0, locals := 25 }) (va_Pc [.ref (gad G 54), .int a1, .int a2] (pw_Pre G μ)) (va_Qi (fun (r1 : Int32) (u : pw_Mem) => r1 = r ∧ u = μ') (pw_B G) (gA G)) 0 0 (gA G) := by
  refine pw_met (lv := [(0, .ref (gad G 54)), (1, .int a1), (2, .int a2)]) (own := RX6) (cc := cX6_takesNumber) (maxL := 4) (ret := some .boolean) hG rfl (by decide) rfl rfl (Nat.le_of_ble_eq_true rfl) ?_
  intro p e s m below meth c C
  have iX6 : ∀ w ∈ u_ws RX6 TX6 16, w ∈ wsX6_takesNumber := fun _ h => List.mem_cons_of_mem _ (List.mem_append_right _ (h))
  have k1 := C.2.2.2.2.1 (.fieldLink RX6 66 "PulpitRoadsModel" "at" "I") (List.mem_cons_of_mem _ (List.mem_append_left _ (List.mem_of_getElem? (i := 0) rfl)))
  have k2 := C.2.2.2.2.1 (.fieldLink RX6 83 "PulpitRoadsModel" "number" "I") (List.mem_cons_of_mem _ (List.mem_append_left _ (List.mem_of_getElem? (i := 1) rfl)))
  have k3 := C.2.2.2.2.1 (.constantLong RX6 86 (48)) (List.mem_cons_of_mem _ (List.mem_append_left _ (List.mem_of_getElem? (i := 2) rfl)))
  have k4 := C.2.2.2.2.1 (.constantLong RX6 88 (57)) (List.mem_cons_of_mem _ (List.mem_append_left _ (List.mem_of_getElem? (i := 3) rfl)))
  have k5 := C.2.2.2.2.1 (.constantLong RX6 49 (2)) (List.mem_cons_of_mem _ (List.mem_append_left _ (List.mem_of_getElem? (i := 4) rfl)))
  unfold fn_X6_takesNumber at h
  refine pw_aload_n C dX6_takesNumber_0 rfl 0 rfl ?_
  refine pw_get (v := .int (μ 54 10)) C iX6 (by decide) (pw_sh_54 _) rfl 10 (by decide) k1 rfl dX6_takesNumber_1 ?_
  refine pw_istore_n (lv' := [(3, .int (μ 54 10)), (0, .ref (gad G 54)), (1, .int a1), (2, .int a2)]) C dX6_takesNumber_4 rfl (by decide) rfl ?_
  refine pw_aload_n C dX6_takesNumber_5 rfl 1 rfl ?_
  refine pw_iconst (v := (0 : Int32)) C dX6_takesNumber_6 (by decide) ?_
  refine pw_put (host := "PulpitRoads") (ty := .int) C iX6 tyX6 tyX6_ok nmX6 (by decide) (pw_sh_54 _) rfl 12 (by decide) (pw_sh_54 _) k2 rfl (by decide +kernel) (fn_int _) (Nat.le_of_ble_eq_true rfl) dX6_takesNumber_7 ?_
  have L10 : ∀ (k : pw_Mem → Option (Int32 × pw_Mem)) (hk : ∀  (m1 : pw_Mem), k m1 = some (r, μ') → pw_Go p l e ({ frames := 1, cells := 0, slots := 0, locals := 25 }) s m (([.ref (gad G 54), .int a1, .int a2] : List Value).toArray) below meth c (MQ below (va_Qi (fun (r1 : Int32) (u : pw_Mem) => r1 = r ∧ u = μ') (pw_B G) (gA G)) (([.ref (gad G 54), .int a1, .int a2] : List Value).toArray) s 0 0 (gA G)) G 4 76 [(0, .ref (gad G 54)), (1, .int a1), (2, .int a2), (3, .int (μ 54 10))] [] m1) (n : Nat)  (m1 : pw_Mem), fl_X6_takesNumber_10 k a1 a2 (μ 54 10) n m1 = some (r, μ') → pw_Go p l e ({ frames := 1, cells := 0, slots := 0, locals := 25 }) s m (([.ref (gad G 54), .int a1, .int a2] : List Value).toArray) below meth c (MQ below (va_Qi (fun (r1 : Int32) (u : pw_Mem) => r1 = r ∧ u = μ') (pw_B G) (gA G)) (([.ref (gad G 54), .int a1, .int a2] : List Value).toArray) s 0 0 (gA G)) G 4 10 [(0, .ref (gad G 54)), (1, .int a1), (2, .int a2), (3, .int (μ 54 10))] [] m1 := by
    intro k hk n
    induction n with
    | zero => intro m1 h; exact nomatch (show (none : Option (Int32 × pw_Mem)) = some _ from h)
    | succ n ih =>
      intro m1 h
      rw [fl_X6_takesNumber_10] at h
      refine pw_aload_n C dX6_takesNumber_10 rfl 0 rfl ?_
      obtain ⟨r11, m11, hc11, h⟩ := fn_bi_s h
      refine pw_callVi (rest := []) C (by decide) (pw_sh_54 _) rfl (ct_X6_here l C.2.2.2.2.2.2.2.2 hc11) (cwV 0 C.2.2.2.2.1 gX6_takesNumber_X6_here rfl rfl rfl (by decide +kernel) ⟨Nat.le_of_ble_eq_true rfl, Nat.le_of_ble_eq_true rfl⟩) rfl rfl (Nat.le_of_ble_eq_true rfl) dX6_takesNumber_11 ?_
      refine pw_i2l C dX6_takesNumber_14 ?_
      refine pw_ldc2 C k3 dX6_takesNumber_15 ?_
      refine pw_ldc2 C k4 dX6_takesNumber_18 ?_
      obtain ⟨r21, m21, hc21, h⟩ := fn_bi_s h
      refine pw_callSi (rest := []) C (ct_X6_in l C.2.2.2.2.2.2.2.2 hc21) (va_cwS 3 C.2.2.2.2.1 gX6_takesNumber_X6_in rfl rfl rfl (by decide +kernel) ⟨Nat.le_of_ble_eq_true rfl, Nat.le_of_ble_eq_true rfl⟩) rfl rfl (Nat.le_of_ble_eq_true rfl) dX6_takesNumber_21 ?_
      refine pw_if_eq (tgt := 76) C dX6_takesNumber_24 (by decide) (fun c24 => ?_) (fun c24 => ?_)
      · have h := fn_pos c24 h
        exact hk _ h
      · have h := fn_neg c24 h
        refine pw_aload_n C dX6_takesNumber_27 rfl 0 rfl ?_
        refine pw_aload_n C dX6_takesNumber_28 rfl 0 rfl ?_
        refine pw_get (v := .int (m21 54 10)) C iX6 (by decide) (pw_sh_54 _) rfl 10 (by decide) k1 rfl dX6_takesNumber_29 ?_
        refine pw_iload_n C dX6_takesNumber_32 rfl 3 rfl ?_
        refine pw_isub C dX6_takesNumber_33 ?_
        refine pw_iconst (v := (2 : Int32)) C dX6_takesNumber_34 (by decide) ?_
        refine fn_jn1_s (fun x60_0 m60 => pw_Go p l e ({ frames := 1, cells := 0, slots := 0, locals := 25 }) s m (([.ref (gad G 54), .int a1, .int a2] : List Value).toArray) below meth c (MQ below (va_Qi (fun (r1 : Int32) (u : pw_Mem) => r1 = r ∧ u = μ') (pw_B G) (gA G)) (([.ref (gad G 54), .int a1, .int a2] : List Value).toArray) s 0 0 (gA G)) G 4 60 [(0, .ref (gad G 54)), (1, .int a1), (2, .int a2), (3, .int (μ 54 10))] [.int x60_0, .ref (gad G 54)] m60) h (fun x60_0 m60 h => ?_) (fun k60 hk60 h => ?_)
        · refine pw_put (host := "PulpitRoads") (ty := .int) C iX6 tyX6 tyX6_ok nmX6 (by decide) (pw_sh_54 _) rfl 12 (by decide) (pw_sh_54 _) k2 rfl (by decide +kernel) (fn_int _) (Nat.le_of_ble_eq_true rfl) dX6_takesNumber_60 ?_
          refine pw_aload_n C dX6_takesNumber_63 rfl 0 rfl ?_
          refine pw_dup C dX6_takesNumber_64 rfl ?_
          refine pw_get (v := .int ((pw_st m60 54 12 x60_0) 54 10)) C iX6 (by decide) (pw_sh_54 _) rfl 10 (by decide) k1 rfl dX6_takesNumber_65 ?_
          refine pw_iconst (v := (1 : Int32)) C dX6_takesNumber_68 (by decide) ?_
          refine pw_iadd C dX6_takesNumber_69 ?_
          refine pw_put (host := "PulpitRoads") (ty := .int) C iX6 tyX6 tyX6_ok nmX6 (by decide) (pw_sh_54 _) rfl 10 (by decide) (pw_sh_54 _) k1 rfl (by decide +kernel) (fn_int _) (Nat.le_of_ble_eq_true rfl) dX6_takesNumber_70 ?_
          refine pw_goto (tgt := 10) C dX6_takesNumber_73 (by decide) ?_
          exact ih _ h
        · refine pw_icmp_ge (tgt := 56) C dX6_takesNumber_35 (by decide) (fun c35 => ?_) (fun c35 => ?_)
          · have h := fn_pos c35 h
            refine pw_aload_n C dX6_takesNumber_56 rfl 0 rfl ?_
            refine pw_get (v := .int (m21 54 12)) C iX6 (by decide) (pw_sh_54 _) rfl 12 (by decide) k2 rfl dX6_takesNumber_57 ?_
            exact hk60 _ _ h
          · have h := fn_neg c35 h
            refine pw_bipush (v := (10 : Int32)) C dX6_takesNumber_38 (by decide) ?_
            refine pw_aload_n C dX6_takesNumber_40 rfl 0 rfl ?_
            refine pw_get (v := .int (m21 54 12)) C iX6 (by decide) (pw_sh_54 _) rfl 12 (by decide) k2 rfl dX6_takesNumber_41 ?_
            refine pw_imul C dX6_takesNumber_44 ?_
            refine pw_aload_n C dX6_takesNumber_45 rfl 0 rfl ?_
            obtain ⟨r46, m46, hc46, h⟩ := fn_bi_s h
            refine pw_callVi (rest := [.int ((10 : Int32) * (m21 54 12)), .ref (gad G 54)]) C (by decide) (pw_sh_54 _) rfl (ct_X6_here l C.2.2.2.2.2.2.2.2 hc46) (cwV 0 C.2.2.2.2.1 gX6_takesNumber_X6_here rfl rfl rfl (by decide +kernel) ⟨Nat.le_of_ble_eq_true rfl, Nat.le_of_ble_eq_true rfl⟩) rfl rfl (Nat.le_of_ble_eq_true rfl) dX6_takesNumber_46 ?_
            refine pw_iadd C dX6_takesNumber_49 ?_
            refine pw_bipush (v := (48 : Int32)) C dX6_takesNumber_50 (by decide) ?_
            refine pw_isub C dX6_takesNumber_52 ?_
            refine pw_goto (tgt := 60) C dX6_takesNumber_53 (by decide) ?_
            exact hk60 _ _ h
  refine pw_sub [1, 2, 3, 0] rfl ?_
  refine L10 _ (fun m76 h => ?_) _  _ h
  refine pw_aload_n C dX6_takesNumber_76 rfl 0 rfl ?_
  refine pw_get (v := .int (m76 54 10)) C iX6 (by decide) (pw_sh_54 _) rfl 10 (by decide) k1 rfl dX6_takesNumber_77 ?_
  refine pw_iload_n C dX6_takesNumber_80 rfl 3 rfl ?_
  refine pw_isub C dX6_takesNumber_81 ?_
  refine pw_i2l C dX6_takesNumber_82 ?_
  refine pw_lconst (v := (1 : Int64)) C dX6_takesNumber_83 (by decide) ?_
  refine pw_ldc2 C k5 dX6_takesNumber_84 ?_
  obtain ⟨r87, m87, hc87, h⟩ := fn_bi_s h
  refine pw_callSi (rest := []) C (ct_X6_in l C.2.2.2.2.2.2.2.2 hc87) (va_cwS 3 C.2.2.2.2.1 gX6_takesNumber_X6_in rfl rfl rfl (by decide +kernel) ⟨Nat.le_of_ble_eq_true rfl, Nat.le_of_ble_eq_true rfl⟩) rfl rfl (Nat.le_of_ble_eq_true rfl) dX6_takesNumber_87 ?_
  refine pw_if_ne (tgt := 100) C dX6_takesNumber_90 (by decide) (fun c90 => ?_) (fun c90 => ?_)
  · have h := fn_pos c90 h
    refine pw_aload_n C dX6_takesNumber_100 rfl 0 rfl ?_
    refine pw_get (v := .int (m87 54 12)) C iX6 (by decide) (pw_sh_54 _) rfl 12 (by decide) k2 rfl dX6_takesNumber_101 ?_
    refine pw_i2l C dX6_takesNumber_104 ?_
    refine pw_iload_n C dX6_takesNumber_105 rfl 1 rfl ?_
    refine pw_i2l C dX6_takesNumber_106 ?_
    refine pw_iload_n C dX6_takesNumber_107 rfl 2 rfl ?_
    refine pw_i2l C dX6_takesNumber_108 ?_
    obtain ⟨r109, m109, hc109, h⟩ := fn_bi_s h
    refine pw_callSi (rest := []) C (ct_X6_in l C.2.2.2.2.2.2.2.2 hc109) (va_cwS 3 C.2.2.2.2.1 gX6_takesNumber_X6_in rfl rfl rfl (by decide +kernel) ⟨Nat.le_of_ble_eq_true rfl, Nat.le_of_ble_eq_true rfl⟩) rfl rfl (Nat.le_of_ble_eq_true rfl) dX6_takesNumber_109 ?_
    refine pw_if_ne (tgt := 122) C dX6_takesNumber_112 (by decide) (fun c112 => ?_) (fun c112 => ?_)
    · have h := fn_pos c112 h
      refine pw_iconst (v := (1 : Int32)) C dX6_takesNumber_122 (by decide) ?_
      obtain ⟨hz123, h⟩ := fn_bz_s h
      exact pw_zret C hz123 h dX6_takesNumber_123
    · have h := fn_neg c112 h
      refine pw_aload_n C dX6_takesNumber_115 rfl 0 rfl ?_
      refine pw_iconst (v := (2 : Int32)) C dX6_takesNumber_116 (by decide) ?_
      refine pw_iload_n C dX6_takesNumber_117 rfl 3 rfl ?_
      obtain ⟨r118, m118, hc118, h⟩ := fn_bi_s h
      refine pw_callVi (rest := []) C (by decide) (pw_sh_54 _) rfl (ct_X6_fails l C.2.2.2.2.2.2.2.2 hc118) (cwV 2 C.2.2.2.2.1 gX6_takesNumber_X6_fails rfl rfl rfl (by decide +kernel) ⟨Nat.le_of_ble_eq_true rfl, Nat.le_of_ble_eq_true rfl⟩) rfl rfl (Nat.le_of_ble_eq_true rfl) dX6_takesNumber_118 ?_
      obtain ⟨hz121, h⟩ := fn_bz_s h
      exact pw_zret C hz121 h dX6_takesNumber_121
  · have h := fn_neg c90 h
    refine pw_aload_n C dX6_takesNumber_93 rfl 0 rfl ?_
    refine pw_iconst (v := (1 : Int32)) C dX6_takesNumber_94 (by decide) ?_
    refine pw_iload_n C dX6_takesNumber_95 rfl 3 rfl ?_
    obtain ⟨r96, m96, hc96, h⟩ := fn_bi_s h
    refine pw_callVi (rest := []) C (by decide) (pw_sh_54 _) rfl (ct_X6_fails l C.2.2.2.2.2.2.2.2 hc96) (cwV 2 C.2.2.2.2.1 gX6_takesNumber_X6_fails rfl rfl rfl (by decide +kernel) ⟨Nat.le_of_ble_eq_true rfl, Nat.le_of_ble_eq_true rfl⟩) rfl rfl (Nat.le_of_ble_eq_true rfl) dX6_takesNumber_96 ?_
    obtain ⟨hz99, h⟩ := fn_bz_s h
    exact pw_zret C hz99 h dX6_takesNumber_99
set_option maxHeartbeats 4000000 in
set_option maxRecDepth 100000 in
theorem ct_X6_kindOf (l : Launch) {G : pw_G} (hG : pw_Ok G) {a0 : Int32}  {μ μ' : pw_Mem} {r : Int32} (h : fn_X6_kindOf a0 μ = some (r, μ')) : Met l yX6_kindOf wsX6_kindOf ({ frames := 0, cells := 0, slots := 0, locals := 0 }) (va_Pc [.int a0] (pw_Pre G μ)) (va_Qi (fun (r1 : Int32) (u : pw_Mem) => r1 = r ∧ u = μ') (pw_B G) (gA G)) 0 0 (gA G) := by
  refine pw_met (lv := [(0, .int a0)]) (own := RX6) (cc := cX6_kindOf) (maxL := 1) (ret := some .int) hG rfl (by decide) rfl rfl (Nat.le_of_ble_eq_true rfl) ?_
  intro p e s m below meth c C
  unfold fn_X6_kindOf at h
  refine pw_iload_n C dX6_kindOf_0 rfl 0 rfl ?_
  refine pw_bipush (v := (98 : Int32)) C dX6_kindOf_1 (by decide) ?_
  refine pw_icmp_ne (tgt := 10) C dX6_kindOf_3 (by decide) (fun c3 => ?_) (fun c3 => ?_)
  · have h := fn_pos c3 h
    refine pw_iload_n C dX6_kindOf_10 rfl 0 rfl ?_
    refine pw_bipush (v := (107 : Int32)) C dX6_kindOf_11 (by decide) ?_
    refine pw_icmp_ne (tgt := 20) C dX6_kindOf_13 (by decide) (fun c13 => ?_) (fun c13 => ?_)
    · have h := fn_pos c13 h
      refine pw_iload_n C dX6_kindOf_20 rfl 0 rfl ?_
      refine pw_bipush (v := (121 : Int32)) C dX6_kindOf_21 (by decide) ?_
      refine pw_icmp_ne (tgt := 30) C dX6_kindOf_23 (by decide) (fun c23 => ?_) (fun c23 => ?_)
      · have h := fn_pos c23 h
        refine pw_iload_n C dX6_kindOf_30 rfl 0 rfl ?_
        refine pw_bipush (v := (100 : Int32)) C dX6_kindOf_31 (by decide) ?_
        refine pw_icmp_ne (tgt := 40) C dX6_kindOf_33 (by decide) (fun c33 => ?_) (fun c33 => ?_)
        · have h := fn_pos c33 h
          refine pw_iload_n C dX6_kindOf_40 rfl 0 rfl ?_
          refine pw_bipush (v := (101 : Int32)) C dX6_kindOf_41 (by decide) ?_
          refine pw_icmp_ne (tgt := 50) C dX6_kindOf_43 (by decide) (fun c43 => ?_) (fun c43 => ?_)
          · have h := fn_pos c43 h
            refine pw_iconst (v := (0 : Int32)) C dX6_kindOf_50 (by decide) ?_
            exact pw_iret C h dX6_kindOf_51
          · have h := fn_neg c43 h
            refine pw_iconst (v := (5 : Int32)) C dX6_kindOf_46 (by decide) ?_
            refine pw_goto (tgt := 51) C dX6_kindOf_47 (by decide) ?_
            exact pw_iret C h dX6_kindOf_51
        · have h := fn_neg c33 h
          refine pw_iconst (v := (4 : Int32)) C dX6_kindOf_36 (by decide) ?_
          refine pw_goto (tgt := 51) C dX6_kindOf_37 (by decide) ?_
          exact pw_iret C h dX6_kindOf_51
      · have h := fn_neg c23 h
        refine pw_iconst (v := (3 : Int32)) C dX6_kindOf_26 (by decide) ?_
        refine pw_goto (tgt := 51) C dX6_kindOf_27 (by decide) ?_
        exact pw_iret C h dX6_kindOf_51
    · have h := fn_neg c13 h
      refine pw_iconst (v := (2 : Int32)) C dX6_kindOf_16 (by decide) ?_
      refine pw_goto (tgt := 51) C dX6_kindOf_17 (by decide) ?_
      exact pw_iret C h dX6_kindOf_51
  · have h := fn_neg c3 h
    refine pw_iconst (v := (1 : Int32)) C dX6_kindOf_6 (by decide) ?_
    refine pw_goto (tgt := 51) C dX6_kindOf_7 (by decide) ?_
    exact pw_iret C h dX6_kindOf_51
set_option maxHeartbeats 4000000 in
set_option maxRecDepth 100000 in
theorem ct_X6_takesLaw (l : Launch) {G : pw_G} (hG : pw_Ok G)   {μ μ' : pw_Mem} {r : Int32} (h : fn_X6_takesLaw μ = some (r, μ')) : Met l yX6_takesLaw wsX6_takesLaw ({ frames := 2, cells := 0, slots := 0, locals := 48 }) (va_Pc [.ref (gad G 54)] (pw_Pre G μ)) (va_Qi (fun (r1 : Int32) (u : pw_Mem) => r1 = r ∧ u = μ') (pw_B G) (gA G)) 0 0 (gA G) := by
  refine pw_met (lv := [(0, .ref (gad G 54))]) (own := RX6) (cc := cX6_takesLaw) (maxL := 1) (ret := some .boolean) hG rfl (by decide) rfl rfl (Nat.le_of_ble_eq_true rfl) ?_
  intro p e s m below meth c C
  have iX6 : ∀ w ∈ u_ws RX6 TX6 16, w ∈ wsX6_takesLaw := fun _ h => List.mem_cons_of_mem _ (List.mem_append_right _ (h))
  have k1 := C.2.2.2.2.1 (.fieldLink RX6 7 "PulpitRoadsModel" "w" "[I") (List.mem_cons_of_mem _ (List.mem_append_left _ (List.mem_append_left _ (List.mem_of_getElem? (i := 0) rfl))))
  have k2 := C.2.2.2.2.1 (.fieldLink RX6 83 "PulpitRoadsModel" "number" "I") (List.mem_cons_of_mem _ (List.mem_append_left _ (List.mem_append_left _ (List.mem_of_getElem? (i := 1) rfl))))
  unfold fn_X6_takesLaw at h
  refine pw_aload_n C dX6_takesLaw_0 rfl 0 rfl ?_
  refine pw_bipush (v := (112 : Int32)) C dX6_takesLaw_1 (by decide) ?_
  obtain ⟨r3, m3, hc3, h⟩ := fn_bi_s h
  refine pw_callVi (rest := []) C (by decide) (pw_sh_54 _) rfl (ct_X6_takes l C.2.2.2.2.2.2.2.2 hc3) (cwV 1 C.2.2.2.2.1 gX6_takesLaw_X6_takes rfl rfl rfl (by decide +kernel) ⟨Nat.le_of_ble_eq_true rfl, Nat.le_of_ble_eq_true rfl⟩) rfl rfl (Nat.le_of_ble_eq_true rfl) dX6_takesLaw_3 ?_
  refine pw_if_eq (tgt := 19) C dX6_takesLaw_6 (by decide) (fun c6 => ?_) (fun c6 => ?_)
  · have h := fn_pos c6 h
    refine pw_iconst (v := (0 : Int32)) C dX6_takesLaw_19 (by decide) ?_
    obtain ⟨hz20, h⟩ := fn_bz_s h
    exact pw_zret C hz20 h dX6_takesLaw_20
  · have h := fn_neg c6 h
    refine pw_aload_n C dX6_takesLaw_9 rfl 0 rfl ?_
    refine pw_iconst (v := (4 : Int32)) C dX6_takesLaw_10 (by decide) ?_
    refine pw_bipush (v := (16 : Int32)) C dX6_takesLaw_11 (by decide) ?_
    obtain ⟨r13, m13, hc13, h⟩ := fn_bi_s h
    refine pw_callVi (rest := []) C (by decide) (pw_sh_54 _) rfl (ct_X6_takesNumber l C.2.2.2.2.2.2.2.2 hc13) (cwV 2 C.2.2.2.2.1 gX6_takesLaw_X6_takesNumber rfl rfl rfl (by decide +kernel) ⟨Nat.le_of_ble_eq_true rfl, Nat.le_of_ble_eq_true rfl⟩) rfl rfl (Nat.le_of_ble_eq_true rfl) dX6_takesLaw_13 ?_
    refine pw_if_ne (tgt := 21) C dX6_takesLaw_16 (by decide) (fun c16 => ?_) (fun c16 => ?_)
    · have h := fn_pos c16 h
      refine pw_aload_n C dX6_takesLaw_21 rfl 0 rfl ?_
      refine pw_get (v := .ref (gad G 55)) C iX6 (by decide) (pw_sh_54 _) rfl 0 (by decide) k1 rfl dX6_takesLaw_22 ?_
      refine pw_sipush (v := (154 : Int32)) C dX6_takesLaw_25 (by decide) ?_
      refine pw_aload_n C dX6_takesLaw_28 rfl 0 rfl ?_
      refine pw_get (v := .int (m13 54 12)) C iX6 (by decide) (pw_sh_54 _) rfl 12 (by decide) k2 rfl dX6_takesLaw_29 ?_
      obtain ⟨hi32, h⟩ := fn_ix_s h
      refine pw_iast C (by decide) pw_sh_55 hi32 dX6_takesLaw_32 ?_
      refine pw_aload_n C dX6_takesLaw_33 rfl 0 rfl ?_
      refine pw_bipush (v := (44 : Int32)) C dX6_takesLaw_34 (by decide) ?_
      obtain ⟨r36, m36, hc36, h⟩ := fn_bi_s h
      refine pw_callVi (rest := []) C (by decide) (pw_sh_54 _) rfl (ct_X6_takes l C.2.2.2.2.2.2.2.2 hc36) (cwV 1 C.2.2.2.2.1 gX6_takesLaw_X6_takes rfl rfl rfl (by decide +kernel) ⟨Nat.le_of_ble_eq_true rfl, Nat.le_of_ble_eq_true rfl⟩) rfl rfl (Nat.le_of_ble_eq_true rfl) dX6_takesLaw_36 ?_
      refine pw_if_eq (tgt := 60) C dX6_takesLaw_39 (by decide) (fun c39 => ?_) (fun c39 => ?_)
      · have h := fn_pos c39 h
        refine pw_iconst (v := (0 : Int32)) C dX6_takesLaw_60 (by decide) ?_
        obtain ⟨hz61, h⟩ := fn_bz_s h
        exact pw_zret C hz61 h dX6_takesLaw_61
      · have h := fn_neg c39 h
        refine pw_aload_n C dX6_takesLaw_42 rfl 0 rfl ?_
        refine pw_iconst (v := (0 : Int32)) C dX6_takesLaw_43 (by decide) ?_
        refine pw_aload_n C dX6_takesLaw_44 rfl 0 rfl ?_
        refine pw_get (v := .ref (gad G 55)) C iX6 (by decide) (pw_sh_54 _) rfl 0 (by decide) k1 rfl dX6_takesLaw_45 ?_
        refine pw_sipush (v := (154 : Int32)) C dX6_takesLaw_48 (by decide) ?_
        obtain ⟨hi51, h⟩ := fn_ix_s h
        refine pw_iald C (by decide) (pw_sh_55 _) hi51 dX6_takesLaw_51 ?_
        refine pw_iconst (v := (1 : Int32)) C dX6_takesLaw_52 (by decide) ?_
        refine pw_isub C dX6_takesLaw_53 ?_
        obtain ⟨r54, m54, hc54, h⟩ := fn_bi_s h
        refine pw_callVi (rest := []) C (by decide) (pw_sh_54 _) rfl (ct_X6_takesNumber l C.2.2.2.2.2.2.2.2 hc54) (cwV 2 C.2.2.2.2.1 gX6_takesLaw_X6_takesNumber rfl rfl rfl (by decide +kernel) ⟨Nat.le_of_ble_eq_true rfl, Nat.le_of_ble_eq_true rfl⟩) rfl rfl (Nat.le_of_ble_eq_true rfl) dX6_takesLaw_54 ?_
        refine pw_if_ne (tgt := 62) C dX6_takesLaw_57 (by decide) (fun c57 => ?_) (fun c57 => ?_)
        · have h := fn_pos c57 h
          refine pw_aload_n C dX6_takesLaw_62 rfl 0 rfl ?_
          refine pw_get (v := .ref (gad G 55)) C iX6 (by decide) (pw_sh_54 _) rfl 0 (by decide) k1 rfl dX6_takesLaw_63 ?_
          refine pw_sipush (v := (155 : Int32)) C dX6_takesLaw_66 (by decide) ?_
          refine pw_aload_n C dX6_takesLaw_69 rfl 0 rfl ?_
          refine pw_get (v := .int (m54 54 12)) C iX6 (by decide) (pw_sh_54 _) rfl 12 (by decide) k2 rfl dX6_takesLaw_70 ?_
          obtain ⟨hi73, h⟩ := fn_ix_s h
          refine pw_iast C (by decide) pw_sh_55 hi73 dX6_takesLaw_73 ?_
          refine pw_aload_n C dX6_takesLaw_74 rfl 0 rfl ?_
          refine pw_bipush (v := (59 : Int32)) C dX6_takesLaw_75 (by decide) ?_
          obtain ⟨r77, m77, hc77, h⟩ := fn_bi_s h
          refine pw_callVi (rest := []) C (by decide) (pw_sh_54 _) rfl (ct_X6_takes l C.2.2.2.2.2.2.2.2 hc77) (cwV 1 C.2.2.2.2.1 gX6_takesLaw_X6_takes rfl rfl rfl (by decide +kernel) ⟨Nat.le_of_ble_eq_true rfl, Nat.le_of_ble_eq_true rfl⟩) rfl rfl (Nat.le_of_ble_eq_true rfl) dX6_takesLaw_77 ?_
          obtain ⟨hz80, h⟩ := fn_bz_s h
          exact pw_zret C hz80 h dX6_takesLaw_80
        · have h := fn_neg c57 h
          refine pw_iconst (v := (0 : Int32)) C dX6_takesLaw_60 (by decide) ?_
          obtain ⟨hz61, h⟩ := fn_bz_s h
          exact pw_zret C hz61 h dX6_takesLaw_61
    · have h := fn_neg c16 h
      refine pw_iconst (v := (0 : Int32)) C dX6_takesLaw_19 (by decide) ?_
      obtain ⟨hz20, h⟩ := fn_bz_s h
      exact pw_zret C hz20 h dX6_takesLaw_20
set_option maxHeartbeats 4000000 in
set_option maxRecDepth 100000 in
theorem ct_X6_takesStretch (l : Launch) {G : pw_G} (hG : pw_Ok G)   {μ μ' : pw_Mem} {r : Int32} (h : fn_X6_takesStretch μ = some (r, μ')) : Met l yX6_takesStretch wsX6_takesStretch ({ frames := 2, cells := 0, slots := 0, locals := 48 }) (va_Pc [.ref (gad G 54)] (pw_Pre G μ)) (va_Qi (fun (r1 : Int32) (u : pw_Mem) => r1 = r ∧ u = μ') (pw_B G) (gA G)) 0 0 (gA G) := by
  refine pw_met (lv := [(0, .ref (gad G 54))]) (own := RX6) (cc := cX6_takesStretch) (maxL := 1) (ret := some .boolean) hG rfl (by decide) rfl rfl (Nat.le_of_ble_eq_true rfl) ?_
  intro p e s m below meth c C
  have iX6 : ∀ w ∈ u_ws RX6 TX6 16, w ∈ wsX6_takesStretch := fun _ h => List.mem_cons_of_mem _ (List.mem_append_right _ (h))
  have k1 := C.2.2.2.2.1 (.fieldLink RX6 66 "PulpitRoadsModel" "at" "I") (List.mem_cons_of_mem _ (List.mem_append_left _ (List.mem_append_left _ (List.mem_of_getElem? (i := 0) rfl))))
  have k2 := C.2.2.2.2.1 (.fieldLink RX6 7 "PulpitRoadsModel" "w" "[I") (List.mem_cons_of_mem _ (List.mem_append_left _ (List.mem_append_left _ (List.mem_of_getElem? (i := 1) rfl))))
  have k3 := C.2.2.2.2.1 (.fieldLink RX6 83 "PulpitRoadsModel" "number" "I") (List.mem_cons_of_mem _ (List.mem_append_left _ (List.mem_append_left _ (List.mem_of_getElem? (i := 2) rfl))))
  unfold fn_X6_takesStretch at h
  refine pw_aload_n C dX6_takesStretch_0 rfl 0 rfl ?_
  obtain ⟨r1, m1, hc1, h⟩ := fn_bi_s h
  refine pw_callVi (rest := []) C (by decide) (pw_sh_54 _) rfl (ct_X6_here l C.2.2.2.2.2.2.2.2 hc1) (cwV 0 C.2.2.2.2.1 gX6_takesStretch_X6_here rfl rfl rfl (by decide +kernel) ⟨Nat.le_of_ble_eq_true rfl, Nat.le_of_ble_eq_true rfl⟩) rfl rfl (Nat.le_of_ble_eq_true rfl) dX6_takesStretch_1 ?_
  refine pw_bipush (v := (114 : Int32)) C dX6_takesStretch_4 (by decide) ?_
  refine pw_icmp_eq (tgt := 19) C dX6_takesStretch_6 (by decide) (fun c6 => ?_) (fun c6 => ?_)
  · have h := fn_pos c6 h
    refine pw_aload_n C dX6_takesStretch_19 rfl 0 rfl ?_
    refine pw_get (v := .ref (gad G 55)) C iX6 (by decide) (pw_sh_54 _) rfl 0 (by decide) k2 rfl dX6_takesStretch_20 ?_
    refine pw_sipush (v := (152 : Int32)) C dX6_takesStretch_23 (by decide) ?_
    obtain ⟨hi26, h⟩ := fn_ix_s h
    refine pw_iald C (by decide) (pw_sh_55 _) hi26 dX6_takesStretch_26 ?_
    refine pw_bipush (v := (9 : Int32)) C dX6_takesStretch_27 (by decide) ?_
    refine pw_icmp_ne (tgt := 42) C dX6_takesStretch_29 (by decide) (fun c29 => ?_) (fun c29 => ?_)
    · have h := fn_pos c29 h
      refine pw_aload_n C dX6_takesStretch_42 rfl 0 rfl ?_
      refine pw_dup C dX6_takesStretch_43 rfl ?_
      refine pw_get (v := .int (m1 54 10)) C iX6 (by decide) (pw_sh_54 _) rfl 10 (by decide) k1 rfl dX6_takesStretch_44 ?_
      refine pw_iconst (v := (1 : Int32)) C dX6_takesStretch_47 (by decide) ?_
      refine pw_iadd C dX6_takesStretch_48 ?_
      refine pw_put (host := "PulpitRoads") (ty := .int) C iX6 tyX6 tyX6_ok nmX6 (by decide) (pw_sh_54 _) rfl 10 (by decide) (pw_sh_54 _) k1 rfl (by decide +kernel) (fn_int _) (Nat.le_of_ble_eq_true rfl) dX6_takesStretch_49 ?_
      refine pw_aload_n C dX6_takesStretch_52 rfl 0 rfl ?_
      refine pw_iconst (v := (0 : Int32)) C dX6_takesStretch_53 (by decide) ?_
      refine pw_iconst (v := (2 : Int32)) C dX6_takesStretch_54 (by decide) ?_
      obtain ⟨r55, m55, hc55, h⟩ := fn_bi_s h
      refine pw_callVi (rest := []) C (by decide) (pw_sh_54 _) rfl (ct_X6_takesNumber l C.2.2.2.2.2.2.2.2 hc55) (cwV 2 C.2.2.2.2.1 gX6_takesStretch_X6_takesNumber rfl rfl rfl (by decide +kernel) ⟨Nat.le_of_ble_eq_true rfl, Nat.le_of_ble_eq_true rfl⟩) rfl rfl (Nat.le_of_ble_eq_true rfl) dX6_takesStretch_55 ?_
      refine pw_if_ne (tgt := 63) C dX6_takesStretch_58 (by decide) (fun c58 => ?_) (fun c58 => ?_)
      · have h := fn_pos c58 h
        refine pw_aload_n C dX6_takesStretch_63 rfl 0 rfl ?_
        refine pw_get (v := .ref (gad G 55)) C iX6 (by decide) (pw_sh_54 _) rfl 0 (by decide) k2 rfl dX6_takesStretch_64 ?_
        refine pw_sipush (v := (156 : Int32)) C dX6_takesStretch_67 (by decide) ?_
        refine pw_aload_n C dX6_takesStretch_70 rfl 0 rfl ?_
        refine pw_get (v := .ref (gad G 55)) C iX6 (by decide) (pw_sh_54 _) rfl 0 (by decide) k2 rfl dX6_takesStretch_71 ?_
        refine pw_sipush (v := (152 : Int32)) C dX6_takesStretch_74 (by decide) ?_
        obtain ⟨hi77, h⟩ := fn_ix_s h
        refine pw_iald C (by decide) (pw_sh_55 _) hi77 dX6_takesStretch_77 ?_
        refine pw_iadd C dX6_takesStretch_78 ?_
        refine pw_aload_n C dX6_takesStretch_79 rfl 0 rfl ?_
        refine pw_get (v := .int (m55 54 12)) C iX6 (by decide) (pw_sh_54 _) rfl 12 (by decide) k3 rfl dX6_takesStretch_80 ?_
        obtain ⟨hi83, h⟩ := fn_ix_s h
        refine pw_iast C (by decide) pw_sh_55 hi83 dX6_takesStretch_83 ?_
        refine pw_aload_n C dX6_takesStretch_84 rfl 0 rfl ?_
        refine pw_get (v := .ref (gad G 55)) C iX6 (by decide) (pw_sh_54 _) rfl 0 (by decide) k2 rfl dX6_takesStretch_85 ?_
        refine pw_sipush (v := (152 : Int32)) C dX6_takesStretch_88 (by decide) ?_
        refine pw_dup2 C dX6_takesStretch_91 rfl rfl ?_
        obtain ⟨hi92, h⟩ := fn_ix_s h
        refine pw_iald C (by decide) (pw_sh_55 _) hi92 dX6_takesStretch_92 ?_
        refine pw_iconst (v := (1 : Int32)) C dX6_takesStretch_93 (by decide) ?_
        refine pw_iadd C dX6_takesStretch_94 ?_
        obtain ⟨hi95, h⟩ := fn_ix_s h
        refine pw_iast C (by decide) pw_sh_55 hi95 dX6_takesStretch_95 ?_
        refine pw_aload_n C dX6_takesStretch_96 rfl 0 rfl ?_
        refine pw_bipush (v := (59 : Int32)) C dX6_takesStretch_97 (by decide) ?_
        obtain ⟨r99, m99, hc99, h⟩ := fn_bi_s h
        refine pw_callVi (rest := []) C (by decide) (pw_sh_54 _) rfl (ct_X6_takes l C.2.2.2.2.2.2.2.2 hc99) (cwV 1 C.2.2.2.2.1 gX6_takesStretch_X6_takes rfl rfl rfl (by decide +kernel) ⟨Nat.le_of_ble_eq_true rfl, Nat.le_of_ble_eq_true rfl⟩) rfl rfl (Nat.le_of_ble_eq_true rfl) dX6_takesStretch_99 ?_
        obtain ⟨hz102, h⟩ := fn_bz_s h
        exact pw_zret C hz102 h dX6_takesStretch_102
      · have h := fn_neg c58 h
        refine pw_iconst (v := (0 : Int32)) C dX6_takesStretch_61 (by decide) ?_
        obtain ⟨hz62, h⟩ := fn_bz_s h
        exact pw_zret C hz62 h dX6_takesStretch_62
    · have h := fn_neg c29 h
      refine pw_aload_n C dX6_takesStretch_32 rfl 0 rfl ?_
      refine pw_iconst (v := (3 : Int32)) C dX6_takesStretch_33 (by decide) ?_
      refine pw_aload_n C dX6_takesStretch_34 rfl 0 rfl ?_
      refine pw_get (v := .int (m1 54 10)) C iX6 (by decide) (pw_sh_54 _) rfl 10 (by decide) k1 rfl dX6_takesStretch_35 ?_
      obtain ⟨r38, m38, hc38, h⟩ := fn_bi_s h
      refine pw_callVi (rest := []) C (by decide) (pw_sh_54 _) rfl (ct_X6_fails l C.2.2.2.2.2.2.2.2 hc38) (cwV 2 C.2.2.2.2.1 gX6_takesStretch_X6_fails rfl rfl rfl (by decide +kernel) ⟨Nat.le_of_ble_eq_true rfl, Nat.le_of_ble_eq_true rfl⟩) rfl rfl (Nat.le_of_ble_eq_true rfl) dX6_takesStretch_38 ?_
      obtain ⟨hz41, h⟩ := fn_bz_s h
      exact pw_zret C hz41 h dX6_takesStretch_41
  · have h := fn_neg c6 h
    refine pw_aload_n C dX6_takesStretch_9 rfl 0 rfl ?_
    refine pw_iconst (v := (1 : Int32)) C dX6_takesStretch_10 (by decide) ?_
    refine pw_aload_n C dX6_takesStretch_11 rfl 0 rfl ?_
    refine pw_get (v := .int (m1 54 10)) C iX6 (by decide) (pw_sh_54 _) rfl 10 (by decide) k1 rfl dX6_takesStretch_12 ?_
    obtain ⟨r15, m15, hc15, h⟩ := fn_bi_s h
    refine pw_callVi (rest := []) C (by decide) (pw_sh_54 _) rfl (ct_X6_fails l C.2.2.2.2.2.2.2.2 hc15) (cwV 2 C.2.2.2.2.1 gX6_takesStretch_X6_fails rfl rfl rfl (by decide +kernel) ⟨Nat.le_of_ble_eq_true rfl, Nat.le_of_ble_eq_true rfl⟩) rfl rfl (Nat.le_of_ble_eq_true rfl) dX6_takesStretch_15 ?_
    obtain ⟨hz18, h⟩ := fn_bz_s h
    exact pw_zret C hz18 h dX6_takesStretch_18
set_option maxHeartbeats 4000000 in
set_option maxRecDepth 100000 in
theorem ct_X6_takesPulpit (l : Launch) {G : pw_G} (hG : pw_Ok G)   {μ μ' : pw_Mem} {r : Int32} (h : fn_X6_takesPulpit μ = some (r, μ')) : Met l yX6_takesPulpit wsX6_takesPulpit ({ frames := 2, cells := 0, slots := 0, locals := 48 }) (va_Pc [.ref (gad G 54)] (pw_Pre G μ)) (va_Qi (fun (r1 : Int32) (u : pw_Mem) => r1 = r ∧ u = μ') (pw_B G) (gA G)) 0 0 (gA G) := by
  refine pw_met (lv := [(0, .ref (gad G 54))]) (own := RX6) (cc := cX6_takesPulpit) (maxL := 3) (ret := some .boolean) hG rfl (by decide) rfl rfl (Nat.le_of_ble_eq_true rfl) ?_
  intro p e s m below meth c C
  have iX6 : ∀ w ∈ u_ws RX6 TX6 16, w ∈ wsX6_takesPulpit := fun _ h => List.mem_cons_of_mem _ (List.mem_append_right _ (h))
  have k1 := C.2.2.2.2.1 (.fieldLink RX6 7 "PulpitRoadsModel" "w" "[I") (List.mem_cons_of_mem _ (List.mem_append_left _ (List.mem_append_left _ (List.mem_of_getElem? (i := 0) rfl))))
  have k2 := C.2.2.2.2.1 (.fieldLink RX6 66 "PulpitRoadsModel" "at" "I") (List.mem_cons_of_mem _ (List.mem_append_left _ (List.mem_append_left _ (List.mem_of_getElem? (i := 1) rfl))))
  have k3 := C.2.2.2.2.1 (.fieldLink RX6 83 "PulpitRoadsModel" "number" "I") (List.mem_cons_of_mem _ (List.mem_append_left _ (List.mem_append_left _ (List.mem_of_getElem? (i := 2) rfl))))
  unfold fn_X6_takesPulpit at h
  refine pw_aload_n C dX6_takesPulpit_0 rfl 0 rfl ?_
  refine pw_get (v := .ref (gad G 55)) C iX6 (by decide) (pw_sh_54 _) rfl 0 (by decide) k1 rfl dX6_takesPulpit_1 ?_
  refine pw_sipush (v := (153 : Int32)) C dX6_takesPulpit_4 (by decide) ?_
  obtain ⟨hi7, h⟩ := fn_ix_s h
  refine pw_iald C (by decide) (pw_sh_55 _) hi7 dX6_takesPulpit_7 ?_
  refine pw_istore_n (lv' := [(1, .int (μ 55 ((153 : Int32)).toNatClampNeg)), (0, .ref (gad G 54))]) C dX6_takesPulpit_8 rfl (by decide) rfl ?_
  refine pw_aload_n C dX6_takesPulpit_9 rfl 1 rfl ?_
  obtain ⟨r10, m10, hc10, h⟩ := fn_bi_s h
  refine pw_callVi (rest := []) C (by decide) (pw_sh_54 _) rfl (ct_X6_here l C.2.2.2.2.2.2.2.2 hc10) (cwV 0 C.2.2.2.2.1 gX6_takesPulpit_X6_here rfl rfl rfl (by decide +kernel) ⟨Nat.le_of_ble_eq_true rfl, Nat.le_of_ble_eq_true rfl⟩) rfl rfl (Nat.le_of_ble_eq_true rfl) dX6_takesPulpit_10 ?_
  obtain ⟨r13, m13, hc13, h⟩ := fn_bi_s h
  refine pw_callSi (rest := []) C (ct_X6_kindOf l C.2.2.2.2.2.2.2.2 hc13) (va_cwS 1 C.2.2.2.2.1 gX6_takesPulpit_X6_kindOf rfl rfl rfl (by decide +kernel) ⟨Nat.le_of_ble_eq_true rfl, Nat.le_of_ble_eq_true rfl⟩) rfl rfl (Nat.le_of_ble_eq_true rfl) dX6_takesPulpit_13 ?_
  refine pw_istore_n (lv' := [(2, .int r13), (1, .int (μ 55 ((153 : Int32)).toNatClampNeg)), (0, .ref (gad G 54))]) C dX6_takesPulpit_16 rfl (by decide) rfl ?_
  refine pw_iload_n C dX6_takesPulpit_17 rfl 0 rfl ?_
  refine pw_if_ne (tgt := 31) C dX6_takesPulpit_18 (by decide) (fun c18 => ?_) (fun c18 => ?_)
  · have h := fn_pos c18 h
    refine pw_iload_n C dX6_takesPulpit_31 rfl 1 rfl ?_
    refine pw_iconst (v := (5 : Int32)) C dX6_takesPulpit_32 (by decide) ?_
    refine pw_icmp_ne (tgt := 46) C dX6_takesPulpit_33 (by decide) (fun c33 => ?_) (fun c33 => ?_)
    · have h := fn_pos c33 h
      refine pw_aload_n C dX6_takesPulpit_46 rfl 2 rfl ?_
      refine pw_dup C dX6_takesPulpit_47 rfl ?_
      refine pw_get (v := .int (m13 54 10)) C iX6 (by decide) (pw_sh_54 _) rfl 10 (by decide) k2 rfl dX6_takesPulpit_48 ?_
      refine pw_iconst (v := (1 : Int32)) C dX6_takesPulpit_51 (by decide) ?_
      refine pw_iadd C dX6_takesPulpit_52 ?_
      refine pw_put (host := "PulpitRoads") (ty := .int) C iX6 tyX6 tyX6_ok nmX6 (by decide) (pw_sh_54 _) rfl 10 (by decide) (pw_sh_54 _) k2 rfl (by decide +kernel) (fn_int _) (Nat.le_of_ble_eq_true rfl) dX6_takesPulpit_53 ?_
      refine pw_aload_n C dX6_takesPulpit_56 rfl 2 rfl ?_
      refine pw_get (v := .ref (gad G 55)) C iX6 (by decide) (pw_sh_54 _) rfl 0 (by decide) k1 rfl dX6_takesPulpit_57 ?_
      refine pw_sipush (v := (165 : Int32)) C dX6_takesPulpit_60 (by decide) ?_
      refine pw_iload_n C dX6_takesPulpit_63 rfl 1 rfl ?_
      refine pw_iadd C dX6_takesPulpit_64 ?_
      refine pw_iload_n C dX6_takesPulpit_65 rfl 0 rfl ?_
      obtain ⟨hi66, h⟩ := fn_ix_s h
      refine pw_iast C (by decide) pw_sh_55 hi66 dX6_takesPulpit_66 ?_
      refine pw_aload_n C dX6_takesPulpit_67 rfl 2 rfl ?_
      refine pw_iconst (v := (0 : Int32)) C dX6_takesPulpit_68 (by decide) ?_
      refine pw_aload_n C dX6_takesPulpit_69 rfl 2 rfl ?_
      refine pw_get (v := .ref (gad G 55)) C iX6 (by decide) (pw_sh_54 _) rfl 0 (by decide) k1 rfl dX6_takesPulpit_70 ?_
      refine pw_sipush (v := (152 : Int32)) C dX6_takesPulpit_73 (by decide) ?_
      obtain ⟨hi76, h⟩ := fn_ix_s h
      refine pw_iald C (by decide) (pw_sh_55 _) hi76 dX6_takesPulpit_76 ?_
      refine pw_iconst (v := (1 : Int32)) C dX6_takesPulpit_77 (by decide) ?_
      refine pw_isub C dX6_takesPulpit_78 ?_
      obtain ⟨r79, m79, hc79, h⟩ := fn_bi_s h
      refine pw_callVi (rest := []) C (by decide) (pw_sh_54 _) rfl (ct_X6_takesNumber l C.2.2.2.2.2.2.2.2 hc79) (cwV 2 C.2.2.2.2.1 gX6_takesPulpit_X6_takesNumber rfl rfl rfl (by decide +kernel) ⟨Nat.le_of_ble_eq_true rfl, Nat.le_of_ble_eq_true rfl⟩) rfl rfl (Nat.le_of_ble_eq_true rfl) dX6_takesPulpit_79 ?_
      refine pw_if_ne (tgt := 87) C dX6_takesPulpit_82 (by decide) (fun c82 => ?_) (fun c82 => ?_)
      · have h := fn_pos c82 h
        refine pw_aload_n C dX6_takesPulpit_87 rfl 2 rfl ?_
        refine pw_get (v := .ref (gad G 55)) C iX6 (by decide) (pw_sh_54 _) rfl 0 (by decide) k1 rfl dX6_takesPulpit_88 ?_
        refine pw_sipush (v := (171 : Int32)) C dX6_takesPulpit_91 (by decide) ?_
        refine pw_iload_n C dX6_takesPulpit_94 rfl 1 rfl ?_
        refine pw_iadd C dX6_takesPulpit_95 ?_
        refine pw_aload_n C dX6_takesPulpit_96 rfl 2 rfl ?_
        refine pw_get (v := .int (m79 54 12)) C iX6 (by decide) (pw_sh_54 _) rfl 12 (by decide) k3 rfl dX6_takesPulpit_97 ?_
        obtain ⟨hi100, h⟩ := fn_ix_s h
        refine pw_iast C (by decide) pw_sh_55 hi100 dX6_takesPulpit_100 ?_
        refine pw_aload_n C dX6_takesPulpit_101 rfl 2 rfl ?_
        refine pw_bipush (v := (44 : Int32)) C dX6_takesPulpit_102 (by decide) ?_
        obtain ⟨r104, m104, hc104, h⟩ := fn_bi_s h
        refine pw_callVi (rest := []) C (by decide) (pw_sh_54 _) rfl (ct_X6_takes l C.2.2.2.2.2.2.2.2 hc104) (cwV 1 C.2.2.2.2.1 gX6_takesPulpit_X6_takes rfl rfl rfl (by decide +kernel) ⟨Nat.le_of_ble_eq_true rfl, Nat.le_of_ble_eq_true rfl⟩) rfl rfl (Nat.le_of_ble_eq_true rfl) dX6_takesPulpit_104 ?_
        refine pw_if_eq (tgt := 128) C dX6_takesPulpit_107 (by decide) (fun c107 => ?_) (fun c107 => ?_)
        · have h := fn_pos c107 h
          refine pw_iconst (v := (0 : Int32)) C dX6_takesPulpit_128 (by decide) ?_
          obtain ⟨hz129, h⟩ := fn_bz_s h
          exact pw_zret C hz129 h dX6_takesPulpit_129
        · have h := fn_neg c107 h
          refine pw_aload_n C dX6_takesPulpit_110 rfl 2 rfl ?_
          refine pw_iconst (v := (0 : Int32)) C dX6_takesPulpit_111 (by decide) ?_
          refine pw_aload_n C dX6_takesPulpit_112 rfl 2 rfl ?_
          refine pw_get (v := .ref (gad G 55)) C iX6 (by decide) (pw_sh_54 _) rfl 0 (by decide) k1 rfl dX6_takesPulpit_113 ?_
          refine pw_sipush (v := (154 : Int32)) C dX6_takesPulpit_116 (by decide) ?_
          obtain ⟨hi119, h⟩ := fn_ix_s h
          refine pw_iald C (by decide) (pw_sh_55 _) hi119 dX6_takesPulpit_119 ?_
          refine pw_iconst (v := (1 : Int32)) C dX6_takesPulpit_120 (by decide) ?_
          refine pw_isub C dX6_takesPulpit_121 ?_
          obtain ⟨r122, m122, hc122, h⟩ := fn_bi_s h
          refine pw_callVi (rest := []) C (by decide) (pw_sh_54 _) rfl (ct_X6_takesNumber l C.2.2.2.2.2.2.2.2 hc122) (cwV 2 C.2.2.2.2.1 gX6_takesPulpit_X6_takesNumber rfl rfl rfl (by decide +kernel) ⟨Nat.le_of_ble_eq_true rfl, Nat.le_of_ble_eq_true rfl⟩) rfl rfl (Nat.le_of_ble_eq_true rfl) dX6_takesPulpit_122 ?_
          refine pw_if_ne (tgt := 130) C dX6_takesPulpit_125 (by decide) (fun c125 => ?_) (fun c125 => ?_)
          · have h := fn_pos c125 h
            refine pw_aload_n C dX6_takesPulpit_130 rfl 2 rfl ?_
            refine pw_get (v := .ref (gad G 55)) C iX6 (by decide) (pw_sh_54 _) rfl 0 (by decide) k1 rfl dX6_takesPulpit_131 ?_
            refine pw_sipush (v := (176 : Int32)) C dX6_takesPulpit_134 (by decide) ?_
            refine pw_iload_n C dX6_takesPulpit_137 rfl 1 rfl ?_
            refine pw_iadd C dX6_takesPulpit_138 ?_
            refine pw_aload_n C dX6_takesPulpit_139 rfl 2 rfl ?_
            refine pw_get (v := .int (m122 54 12)) C iX6 (by decide) (pw_sh_54 _) rfl 12 (by decide) k3 rfl dX6_takesPulpit_140 ?_
            obtain ⟨hi143, h⟩ := fn_ix_s h
            refine pw_iast C (by decide) pw_sh_55 hi143 dX6_takesPulpit_143 ?_
            refine pw_aload_n C dX6_takesPulpit_144 rfl 2 rfl ?_
            refine pw_get (v := .ref (gad G 55)) C iX6 (by decide) (pw_sh_54 _) rfl 0 (by decide) k1 rfl dX6_takesPulpit_145 ?_
            refine pw_sipush (v := (153 : Int32)) C dX6_takesPulpit_148 (by decide) ?_
            refine pw_dup2 C dX6_takesPulpit_151 rfl rfl ?_
            obtain ⟨hi152, h⟩ := fn_ix_s h
            refine pw_iald C (by decide) (pw_sh_55 _) hi152 dX6_takesPulpit_152 ?_
            refine pw_iconst (v := (1 : Int32)) C dX6_takesPulpit_153 (by decide) ?_
            refine pw_iadd C dX6_takesPulpit_154 ?_
            obtain ⟨hi155, h⟩ := fn_ix_s h
            refine pw_iast C (by decide) pw_sh_55 hi155 dX6_takesPulpit_155 ?_
            refine pw_aload_n C dX6_takesPulpit_156 rfl 2 rfl ?_
            refine pw_bipush (v := (59 : Int32)) C dX6_takesPulpit_157 (by decide) ?_
            obtain ⟨r159, m159, hc159, h⟩ := fn_bi_s h
            refine pw_callVi (rest := []) C (by decide) (pw_sh_54 _) rfl (ct_X6_takes l C.2.2.2.2.2.2.2.2 hc159) (cwV 1 C.2.2.2.2.1 gX6_takesPulpit_X6_takes rfl rfl rfl (by decide +kernel) ⟨Nat.le_of_ble_eq_true rfl, Nat.le_of_ble_eq_true rfl⟩) rfl rfl (Nat.le_of_ble_eq_true rfl) dX6_takesPulpit_159 ?_
            obtain ⟨hz162, h⟩ := fn_bz_s h
            exact pw_zret C hz162 h dX6_takesPulpit_162
          · have h := fn_neg c125 h
            refine pw_iconst (v := (0 : Int32)) C dX6_takesPulpit_128 (by decide) ?_
            obtain ⟨hz129, h⟩ := fn_bz_s h
            exact pw_zret C hz129 h dX6_takesPulpit_129
      · have h := fn_neg c82 h
        refine pw_iconst (v := (0 : Int32)) C dX6_takesPulpit_85 (by decide) ?_
        obtain ⟨hz86, h⟩ := fn_bz_s h
        exact pw_zret C hz86 h dX6_takesPulpit_86
    · have h := fn_neg c33 h
      refine pw_aload_n C dX6_takesPulpit_36 rfl 2 rfl ?_
      refine pw_iconst (v := (3 : Int32)) C dX6_takesPulpit_37 (by decide) ?_
      refine pw_aload_n C dX6_takesPulpit_38 rfl 2 rfl ?_
      refine pw_get (v := .int (m13 54 10)) C iX6 (by decide) (pw_sh_54 _) rfl 10 (by decide) k2 rfl dX6_takesPulpit_39 ?_
      obtain ⟨r42, m42, hc42, h⟩ := fn_bi_s h
      refine pw_callVi (rest := []) C (by decide) (pw_sh_54 _) rfl (ct_X6_fails l C.2.2.2.2.2.2.2.2 hc42) (cwV 2 C.2.2.2.2.1 gX6_takesPulpit_X6_fails rfl rfl rfl (by decide +kernel) ⟨Nat.le_of_ble_eq_true rfl, Nat.le_of_ble_eq_true rfl⟩) rfl rfl (Nat.le_of_ble_eq_true rfl) dX6_takesPulpit_42 ?_
      obtain ⟨hz45, h⟩ := fn_bz_s h
      exact pw_zret C hz45 h dX6_takesPulpit_45
  · have h := fn_neg c18 h
    refine pw_aload_n C dX6_takesPulpit_21 rfl 2 rfl ?_
    refine pw_iconst (v := (1 : Int32)) C dX6_takesPulpit_22 (by decide) ?_
    refine pw_aload_n C dX6_takesPulpit_23 rfl 2 rfl ?_
    refine pw_get (v := .int (m13 54 10)) C iX6 (by decide) (pw_sh_54 _) rfl 10 (by decide) k2 rfl dX6_takesPulpit_24 ?_
    obtain ⟨r27, m27, hc27, h⟩ := fn_bi_s h
    refine pw_callVi (rest := []) C (by decide) (pw_sh_54 _) rfl (ct_X6_fails l C.2.2.2.2.2.2.2.2 hc27) (cwV 2 C.2.2.2.2.1 gX6_takesPulpit_X6_fails rfl rfl rfl (by decide +kernel) ⟨Nat.le_of_ble_eq_true rfl, Nat.le_of_ble_eq_true rfl⟩) rfl rfl (Nat.le_of_ble_eq_true rfl) dX6_takesPulpit_27 ?_
    obtain ⟨hz30, h⟩ := fn_bz_s h
    exact pw_zret C hz30 h dX6_takesPulpit_30
set_option maxHeartbeats 4000000 in
set_option maxRecDepth 100000 in
theorem ct_X6_takesAll (l : Launch) {G : pw_G} (hG : pw_Ok G)   {μ μ' : pw_Mem} {r : Int32} (h : fn_X6_takesAll μ = some (r, μ')) : Met l yX6_takesAll wsX6_takesAll ({ frames := 3, cells := 0, slots := 0, locals := 70 }) (va_Pc [.ref (gad G 54)] (pw_Pre G μ)) (va_Qi (fun (r1 : Int32) (u : pw_Mem) => r1 = r ∧ u = μ') (pw_B G) (gA G)) 0 0 (gA G) := by
  refine pw_met (lv := [(0, .ref (gad G 54))]) (own := RX6) (cc := cX6_takesAll) (maxL := 1) (ret := some .boolean) hG rfl (by decide) rfl rfl (Nat.le_of_ble_eq_true rfl) ?_
  intro p e s m below meth c C
  have iX6 : ∀ w ∈ u_ws RX6 TX6 16, w ∈ wsX6_takesAll := fun _ h => List.mem_cons_of_mem _ (List.mem_append_right _ (h))
  have k1 := C.2.2.2.2.1 (.fieldLink RX6 7 "PulpitRoadsModel" "w" "[I") (List.mem_cons_of_mem _ (List.mem_append_left _ (List.mem_append_left _ (List.mem_of_getElem? (i := 0) rfl))))
  have k2 := C.2.2.2.2.1 (.fieldLink RX6 66 "PulpitRoadsModel" "at" "I") (List.mem_cons_of_mem _ (List.mem_append_left _ (List.mem_append_left _ (List.mem_of_getElem? (i := 1) rfl))))
  have k3 := C.2.2.2.2.1 (.fieldLink RX6 62 "PulpitRoadsModel" "taped" "I") (List.mem_cons_of_mem _ (List.mem_append_left _ (List.mem_append_left _ (List.mem_of_getElem? (i := 2) rfl))))
  unfold fn_X6_takesAll at h
  refine pw_aload_n C dX6_takesAll_0 rfl 0 rfl ?_
  obtain ⟨r1, m1, hc1, h⟩ := fn_bi_s h
  refine pw_callVi (rest := []) C (by decide) (pw_sh_54 _) rfl (ct_X6_takesLaw l C.2.2.2.2.2.2.2.2 hc1) (cwV 0 C.2.2.2.2.1 gX6_takesAll_X6_takesLaw rfl rfl rfl (by decide +kernel) ⟨Nat.le_of_ble_eq_true rfl, Nat.le_of_ble_eq_true rfl⟩) rfl rfl (Nat.le_of_ble_eq_true rfl) dX6_takesAll_1 ?_
  refine pw_if_ne (tgt := 9) C dX6_takesAll_4 (by decide) (fun c4 => ?_) (fun c4 => ?_)
  · have h := fn_pos c4 h
    have L9 : ∀ (k : pw_Mem → Option (Int32 × pw_Mem)) (hk : ∀  (m1 : pw_Mem), k m1 = some (r, μ') → pw_Go p l e ({ frames := 3, cells := 0, slots := 0, locals := 70 }) s m (([.ref (gad G 54)] : List Value).toArray) below meth c (MQ below (va_Qi (fun (r1 : Int32) (u : pw_Mem) => r1 = r ∧ u = μ') (pw_B G) (gA G)) (([.ref (gad G 54)] : List Value).toArray) s 0 0 (gA G)) G 1 37 [] [] m1) (n : Nat)  (m1 : pw_Mem), fl_X6_takesAll_9 k  n m1 = some (r, μ') → pw_Go p l e ({ frames := 3, cells := 0, slots := 0, locals := 70 }) s m (([.ref (gad G 54)] : List Value).toArray) below meth c (MQ below (va_Qi (fun (r1 : Int32) (u : pw_Mem) => r1 = r ∧ u = μ') (pw_B G) (gA G)) (([.ref (gad G 54)] : List Value).toArray) s 0 0 (gA G)) G 1 9 [(0, .ref (gad G 54))] [] m1 := by
      intro k hk n
      induction n with
      | zero => intro m1 h; exact nomatch (show (none : Option (Int32 × pw_Mem)) = some _ from h)
      | succ n ih =>
        intro m1 h
        rw [fl_X6_takesAll_9] at h
        refine pw_aload_n C dX6_takesAll_9 rfl 0 rfl ?_
        refine pw_get (v := .ref (gad G 55)) C iX6 (by decide) (pw_sh_54 _) rfl 0 (by decide) k1 rfl dX6_takesAll_10 ?_
        refine pw_sipush (v := (152 : Int32)) C dX6_takesAll_13 (by decide) ?_
        obtain ⟨hi16, h⟩ := fn_ix_s h
        refine pw_iald C (by decide) (pw_sh_55 _) hi16 dX6_takesAll_16 ?_
        refine pw_iconst (v := (3 : Int32)) C dX6_takesAll_17 (by decide) ?_
        refine fn_jn0_s (fun m30 => pw_Go p l e ({ frames := 3, cells := 0, slots := 0, locals := 70 }) s m (([.ref (gad G 54)] : List Value).toArray) below meth c (MQ below (va_Qi (fun (r1 : Int32) (u : pw_Mem) => r1 = r ∧ u = μ') (pw_B G) (gA G)) (([.ref (gad G 54)] : List Value).toArray) s 0 0 (gA G)) G 1 30 [(0, .ref (gad G 54))] [] m30) h (fun m30 h => ?_) (fun k30 hk30 h => ?_)
        · refine pw_aload_n C dX6_takesAll_30 rfl 0 rfl ?_
          obtain ⟨r31, m31, hc31, h⟩ := fn_bi_s h
          refine pw_callVi (rest := []) C (by decide) (pw_sh_54 _) rfl (ct_X6_takesStretch l C.2.2.2.2.2.2.2.2 hc31) (cwV 0 C.2.2.2.2.1 gX6_takesAll_X6_takesStretch rfl rfl rfl (by decide +kernel) ⟨Nat.le_of_ble_eq_true rfl, Nat.le_of_ble_eq_true rfl⟩) rfl rfl (Nat.le_of_ble_eq_true rfl) dX6_takesAll_31 ?_
          refine pw_if_ne (tgt := 9) C dX6_takesAll_34 (by decide) (fun c34 => ?_) (fun c34 => ?_)
          · have h := fn_pos c34 h
            exact ih _ h
          · have h := fn_neg c34 h
            refine pw_sub [] rfl ?_
            exact hk _ h
        · refine pw_icmp_lt (tgt := 30) C dX6_takesAll_18 (by decide) (fun c18 => ?_) (fun c18 => ?_)
          · have h := fn_pos c18 h
            exact hk30 _ h
          · have h := fn_neg c18 h
            refine pw_aload_n C dX6_takesAll_21 rfl 0 rfl ?_
            obtain ⟨r22, m22, hc22, h⟩ := fn_bi_s h
            refine pw_callVi (rest := []) C (by decide) (pw_sh_54 _) rfl (ct_X6_here l C.2.2.2.2.2.2.2.2 hc22) (cwV 0 C.2.2.2.2.1 gX6_takesAll_X6_here rfl rfl rfl (by decide +kernel) ⟨Nat.le_of_ble_eq_true rfl, Nat.le_of_ble_eq_true rfl⟩) rfl rfl (Nat.le_of_ble_eq_true rfl) dX6_takesAll_22 ?_
            refine pw_bipush (v := (114 : Int32)) C dX6_takesAll_25 (by decide) ?_
            refine pw_icmp_ne (tgt := 39) C dX6_takesAll_27 (by decide) (fun c27 => ?_) (fun c27 => ?_)
            · have h := fn_pos c27 h
              have L39 : ∀ (k : pw_Mem → Option (Int32 × pw_Mem)) (hk : ∀  (m1 : pw_Mem), k m1 = some (r, μ') → pw_Go p l e ({ frames := 3, cells := 0, slots := 0, locals := 70 }) s m (([.ref (gad G 54)] : List Value).toArray) below meth c (MQ below (va_Qi (fun (r1 : Int32) (u : pw_Mem) => r1 = r ∧ u = μ') (pw_B G) (gA G)) (([.ref (gad G 54)] : List Value).toArray) s 0 0 (gA G)) G 1 57 [] [] m1) (n : Nat)  (m1 : pw_Mem), fl_X6_takesAll_39 k  n m1 = some (r, μ') → pw_Go p l e ({ frames := 3, cells := 0, slots := 0, locals := 70 }) s m (([.ref (gad G 54)] : List Value).toArray) below meth c (MQ below (va_Qi (fun (r1 : Int32) (u : pw_Mem) => r1 = r ∧ u = μ') (pw_B G) (gA G)) (([.ref (gad G 54)] : List Value).toArray) s 0 0 (gA G)) G 1 39 [(0, .ref (gad G 54))] [] m1 := by
                intro k hk n
                induction n with
                | zero => intro m1 h; exact nomatch (show (none : Option (Int32 × pw_Mem)) = some _ from h)
                | succ n ih =>
                  intro m1 h
                  rw [fl_X6_takesAll_39] at h
                  refine pw_aload_n C dX6_takesAll_39 rfl 0 rfl ?_
                  refine pw_get (v := .int (m1 54 10)) C iX6 (by decide) (pw_sh_54 _) rfl 10 (by decide) k2 rfl dX6_takesAll_40 ?_
                  refine pw_aload_n C dX6_takesAll_43 rfl 0 rfl ?_
                  refine pw_get (v := .int (m1 54 3)) C iX6 (by decide) (pw_sh_54 _) rfl 3 (by decide) k3 rfl dX6_takesAll_44 ?_
                  refine pw_icmp_ge (tgt := 59) C dX6_takesAll_47 (by decide) (fun c47 => ?_) (fun c47 => ?_)
                  · have h := fn_pos c47 h
                    refine pw_iconst (v := (1 : Int32)) C dX6_takesAll_59 (by decide) ?_
                    obtain ⟨hz60, h⟩ := fn_bz_s h
                    exact pw_zret C hz60 h dX6_takesAll_60
                  · have h := fn_neg c47 h
                    refine pw_aload_n C dX6_takesAll_50 rfl 0 rfl ?_
                    obtain ⟨r51, m51, hc51, h⟩ := fn_bi_s h
                    refine pw_callVi (rest := []) C (by decide) (pw_sh_54 _) rfl (ct_X6_takesPulpit l C.2.2.2.2.2.2.2.2 hc51) (cwV 0 C.2.2.2.2.1 gX6_takesAll_X6_takesPulpit rfl rfl rfl (by decide +kernel) ⟨Nat.le_of_ble_eq_true rfl, Nat.le_of_ble_eq_true rfl⟩) rfl rfl (Nat.le_of_ble_eq_true rfl) dX6_takesAll_51 ?_
                    refine pw_if_ne (tgt := 39) C dX6_takesAll_54 (by decide) (fun c54 => ?_) (fun c54 => ?_)
                    · have h := fn_pos c54 h
                      exact ih _ h
                    · have h := fn_neg c54 h
                      refine pw_sub [] rfl ?_
                      exact hk _ h
              refine L39 _ (fun m57 h => ?_) _  _ h
              refine pw_iconst (v := (0 : Int32)) C dX6_takesAll_57 (by decide) ?_
              obtain ⟨hz58, h⟩ := fn_bz_s h
              exact pw_zret C hz58 h dX6_takesAll_58
            · have h := fn_neg c27 h
              exact hk30 _ h
    refine L9 _ (fun m37 h => ?_) _  _ h
    refine pw_iconst (v := (0 : Int32)) C dX6_takesAll_37 (by decide) ?_
    obtain ⟨hz38, h⟩ := fn_bz_s h
    exact pw_zret C hz38 h dX6_takesAll_38
  · have h := fn_neg c4 h
    refine pw_iconst (v := (0 : Int32)) C dX6_takesAll_7 (by decide) ?_
    obtain ⟨hz8, h⟩ := fn_bz_s h
    exact pw_zret C hz8 h dX6_takesAll_8
set_option maxHeartbeats 4000000 in
set_option maxRecDepth 100000 in
theorem ct_X6_road (l : Launch) {G : pw_G} (hG : pw_Ok G)   {μ μ' : pw_Mem} {r : Int32} (h : fn_X6_road μ = some (r, μ')) : Met l yX6_road wsX6_road ({ frames := 4, cells := 0, slots := 0, locals := 90 }) (va_Pc [.ref (gad G 54)] (pw_Pre G μ)) (va_Qi (fun (r1 : Int32) (u : pw_Mem) => r1 = r ∧ u = μ') (pw_B G) (gA G)) 0 0 (gA G) := by
  refine pw_met (lv := [(0, .ref (gad G 54))]) (own := RX6) (cc := cX6_road) (maxL := 2) (ret := some .int) hG rfl (by decide) rfl rfl (Nat.le_of_ble_eq_true rfl) ?_
  intro p e s m below meth c C
  have iX6 : ∀ w ∈ u_ws RX6 TX6 16, w ∈ wsX6_road := fun _ h => List.mem_cons_of_mem _ (List.mem_append_right _ (h))
  have k1 := C.2.2.2.2.1 (.fieldLink RX6 7 "PulpitRoadsModel" "w" "[I") (List.mem_cons_of_mem _ (List.mem_append_left _ (List.mem_append_left _ (List.mem_of_getElem? (i := 0) rfl))))
  have k2 := C.2.2.2.2.1 (.fieldLink RX6 66 "PulpitRoadsModel" "at" "I") (List.mem_cons_of_mem _ (List.mem_append_left _ (List.mem_append_left _ (List.mem_of_getElem? (i := 1) rfl))))
  have k3 := C.2.2.2.2.1 (.fieldLink RX6 62 "PulpitRoadsModel" "taped" "I") (List.mem_cons_of_mem _ (List.mem_append_left _ (List.mem_append_left _ (List.mem_of_getElem? (i := 2) rfl))))
  have k4 := C.2.2.2.2.1 (.constant RX6 112 (-1000100)) (List.mem_cons_of_mem _ (List.mem_append_left _ (List.mem_append_left _ (List.mem_of_getElem? (i := 3) rfl))))
  have k5 := C.2.2.2.2.1 (.fieldLink RX6 72 "PulpitRoadsModel" "start" "I") (List.mem_cons_of_mem _ (List.mem_append_left _ (List.mem_append_left _ (List.mem_of_getElem? (i := 4) rfl))))
  have k6 := C.2.2.2.2.1 (.fieldLink RX6 117 "PulpitRoadsModel" "undoes" "I") (List.mem_cons_of_mem _ (List.mem_append_left _ (List.mem_append_left _ (List.mem_of_getElem? (i := 5) rfl))))
  unfold fn_X6_road at h
  refine pw_iconst (v := (0 : Int32)) C dX6_road_0 (by decide) ?_
  refine pw_istore_n (lv' := [(1, .int (0 : Int32)), (0, .ref (gad G 54))]) C dX6_road_1 rfl (by decide) rfl ?_
  have L2 : ∀ (k : pw_Mem → Option (Int32 × pw_Mem)) (hk : ∀  (m1 : pw_Mem), k m1 = some (r, μ') → pw_Go p l e ({ frames := 4, cells := 0, slots := 0, locals := 90 }) s m (([.ref (gad G 54)] : List Value).toArray) below meth c (MQ below (va_Qi (fun (r1 : Int32) (u : pw_Mem) => r1 = r ∧ u = μ') (pw_B G) (gA G)) (([.ref (gad G 54)] : List Value).toArray) s 0 0 (gA G)) G 2 25 [(0, .ref (gad G 54))] [] m1) (n : Nat) (v1 : Int32) (m1 : pw_Mem), fl_X6_road_2 k  n v1 m1 = some (r, μ') → pw_Go p l e ({ frames := 4, cells := 0, slots := 0, locals := 90 }) s m (([.ref (gad G 54)] : List Value).toArray) below meth c (MQ below (va_Qi (fun (r1 : Int32) (u : pw_Mem) => r1 = r ∧ u = μ') (pw_B G) (gA G)) (([.ref (gad G 54)] : List Value).toArray) s 0 0 (gA G)) G 2 2 [(0, .ref (gad G 54)), (1, .int v1)] [] m1 := by
    intro k hk n
    induction n with
    | zero => intro v1 m1 h; exact nomatch (show (none : Option (Int32 × pw_Mem)) = some _ from h)
    | succ n ih =>
      intro v1 m1 h
      rw [fl_X6_road_2] at h
      refine pw_iload_n C dX6_road_2 rfl 1 rfl ?_
      refine pw_bipush (v := (38 : Int32)) C dX6_road_3 (by decide) ?_
      refine pw_icmp_ge (tgt := 25) C dX6_road_5 (by decide) (fun c5 => ?_) (fun c5 => ?_)
      · have h := fn_pos c5 h
        refine pw_sub [0] rfl ?_
        exact hk _ h
      · have h := fn_neg c5 h
        refine pw_aload_n C dX6_road_8 rfl 0 rfl ?_
        refine pw_get (v := .ref (gad G 55)) C iX6 (by decide) (pw_sh_54 _) rfl 0 (by decide) k1 rfl dX6_road_9 ?_
        refine pw_sipush (v := (152 : Int32)) C dX6_road_12 (by decide) ?_
        refine pw_iload_n C dX6_road_15 rfl 1 rfl ?_
        refine pw_iadd C dX6_road_16 ?_
        refine pw_iconst (v := (0 : Int32)) C dX6_road_17 (by decide) ?_
        obtain ⟨hi18, h⟩ := fn_ix_s h
        refine pw_iast C (by decide) pw_sh_55 hi18 dX6_road_18 ?_
        refine pw_iinc (v := (v1 + 1)) (lv' := [(1, .int (v1 + 1)), (0, .ref (gad G 54))]) C dX6_road_19 (q := 1) rfl rfl (by decide) rfl ?_
        refine pw_goto (tgt := 2) C dX6_road_22 (by decide) ?_
        refine pw_sub [1, 0] rfl ?_
        exact ih _ _ h
  refine pw_sub [1, 0] rfl ?_
  refine L2 _ (fun m25 h => ?_) _ _ _ h
  refine pw_aload_n C dX6_road_25 rfl 0 rfl ?_
  refine pw_iconst (v := (0 : Int32)) C dX6_road_26 (by decide) ?_
  refine pw_put (host := "PulpitRoads") (ty := .int) C iX6 tyX6 tyX6_ok nmX6 (by decide) (pw_sh_54 _) rfl 10 (by decide) (pw_sh_54 _) k2 rfl (by decide +kernel) (fn_int _) (Nat.le_of_ble_eq_true rfl) dX6_road_27 ?_
  refine pw_aload_n C dX6_road_30 rfl 0 rfl ?_
  obtain ⟨r31, m31, hc31, h⟩ := fn_bi_s h
  refine pw_callVi (rest := []) C (by decide) (pw_sh_54 _) rfl (ct_X6_takesAll l C.2.2.2.2.2.2.2.2 hc31) (cwV 0 C.2.2.2.2.1 gX6_road_X6_takesAll rfl rfl rfl (by decide +kernel) ⟨Nat.le_of_ble_eq_true rfl, Nat.le_of_ble_eq_true rfl⟩) rfl rfl (Nat.le_of_ble_eq_true rfl) dX6_road_31 ?_
  refine pw_istore_n (lv' := [(1, .int r31), (0, .ref (gad G 54))]) C dX6_road_34 rfl (by decide) rfl ?_
  refine pw_aload_n C dX6_road_35 rfl 1 rfl ?_
  refine pw_iconst (v := (0 : Int32)) C dX6_road_36 (by decide) ?_
  refine pw_put (host := "PulpitRoads") (ty := .int) C iX6 tyX6 tyX6_ok nmX6 (by decide) (pw_sh_54 _) rfl 3 (by decide) (pw_sh_54 _) k3 rfl (by decide +kernel) (fn_int _) (Nat.le_of_ble_eq_true rfl) dX6_road_37 ?_
  refine pw_iload_n C dX6_road_40 rfl 0 rfl ?_
  refine pw_if_ne (tgt := 52) C dX6_road_41 (by decide) (fun c41 => ?_) (fun c41 => ?_)
  · have h := fn_pos c41 h
    refine pw_aload_n C dX6_road_52 rfl 1 rfl ?_
    refine pw_sipush (v := (152 : Int32)) C dX6_road_53 (by decide) ?_
    refine pw_iconst (v := (0 : Int32)) C dX6_road_56 (by decide) ?_
    refine pw_bipush (v := (38 : Int32)) C dX6_road_57 (by decide) ?_
    obtain ⟨m59, hc59, h⟩ := fn_bv_s h
    refine pw_callVv (rest := []) C (by decide) (pw_sh_54 _) rfl (ct_X6_copyOf l C.2.2.2.2.2.2.2.2 hc59) (cwV 3 C.2.2.2.2.1 gX6_road_X6_copyOf rfl rfl rfl (by decide +kernel) ⟨Nat.le_of_ble_eq_true rfl, Nat.le_of_ble_eq_true rfl⟩) rfl rfl (Nat.le_of_ble_eq_true rfl) dX6_road_59 ?_
    refine pw_aload_n C dX6_road_62 rfl 1 rfl ?_
    refine pw_iconst (v := (0 : Int32)) C dX6_road_63 (by decide) ?_
    refine pw_put (host := "PulpitRoads") (ty := .int) C iX6 tyX6 tyX6_ok nmX6 (by decide) (pw_sh_54 _) rfl 1 (by decide) (pw_sh_54 _) k6 rfl (by decide +kernel) (fn_int _) (Nat.le_of_ble_eq_true rfl) dX6_road_64 ?_
    refine pw_aload_n C dX6_road_67 rfl 1 rfl ?_
    refine pw_get (v := .ref (gad G 55)) C iX6 (by decide) (pw_sh_54 _) rfl 0 (by decide) k1 rfl dX6_road_68 ?_
    refine pw_iconst (v := (1 : Int32)) C dX6_road_71 (by decide) ?_
    obtain ⟨hi72, h⟩ := fn_ix_s h
    refine pw_iald C (by decide) (pw_sh_55 _) hi72 dX6_road_72 ?_
    exact pw_iret C h dX6_road_73
  · have h := fn_neg c41 h
    refine pw_ldc C k4 dX6_road_44 ?_
    refine pw_aload_n C dX6_road_46 rfl 1 rfl ?_
    refine pw_get (v := .int ((pw_st m31 54 3 (0 : Int32)) 54 11)) C iX6 (by decide) (pw_sh_54 _) rfl 11 (by decide) k5 rfl dX6_road_47 ?_
    refine pw_isub C dX6_road_50 ?_
    exact pw_iret C h dX6_road_51
set_option maxHeartbeats 4000000 in
set_option maxRecDepth 100000 in
theorem ct_X6_fault (l : Launch) {G : pw_G} (hG : pw_Ok G)   {μ μ' : pw_Mem} {r : Int32} (h : fn_X6_fault μ = some (r, μ')) : Met l yX6_fault wsX6_fault ({ frames := 0, cells := 0, slots := 0, locals := 0 }) (va_Pc [.ref (gad G 54)] (pw_Pre G μ)) (va_Qi (fun (r1 : Int32) (u : pw_Mem) => r1 = r ∧ u = μ') (pw_B G) (gA G)) 0 0 (gA G) := by
  refine pw_met (lv := [(0, .ref (gad G 54))]) (own := RX6) (cc := cX6_fault) (maxL := 1) (ret := some .int) hG rfl (by decide) rfl rfl (Nat.le_of_ble_eq_true rfl) ?_
  intro p e s m below meth c C
  have iX6 : ∀ w ∈ u_ws RX6 TX6 16, w ∈ wsX6_fault := fun _ h => List.mem_cons_of_mem _ (List.mem_append_right _ (h))
  have k1 := C.2.2.2.2.1 (.fieldLink RX6 69 "PulpitRoadsModel" "faulty" "I") (List.mem_cons_of_mem _ (List.mem_append_left _ (List.mem_of_getElem? (i := 0) rfl)))
  unfold fn_X6_fault at h
  refine pw_aload_n C dX6_fault_0 rfl 0 rfl ?_
  refine pw_get (v := .int (μ 54 4)) C iX6 (by decide) (pw_sh_54 _) rfl 4 (by decide) k1 rfl dX6_fault_1 ?_
  exact pw_iret C h dX6_fault_4
set_option maxHeartbeats 4000000 in
set_option maxRecDepth 100000 in
theorem ct_X6_saysMany (l : Launch) {G : pw_G} (hG : pw_Ok G) {a1 : Int32} {a2 : Int32}  {μ μ' : pw_Mem} {r : Int32} (h : fn_X6_saysMany a1 a2 μ = some (r, μ')) : Met l yX6_saysMany wsX6_saysMany ({ frames := 0, cells := 0, slots := 0, locals := 0 }) (va_Pc [.ref (gad G 54), .int a1, .int a2] (pw_Pre G μ)) (va_Qi (fun (r1 : Int32) (u : pw_Mem) => r1 = r ∧ u = μ') (pw_B G) (gA G)) 0 0 (gA G) := by
  refine pw_met (lv := [(0, .ref (gad G 54)), (1, .int a1), (2, .int a2)]) (own := RX6) (cc := cX6_saysMany) (maxL := 4) (ret := some .int) hG rfl (by decide) rfl rfl (Nat.le_of_ble_eq_true rfl) ?_
  intro p e s m below meth c C
  have iX6 : ∀ w ∈ u_ws RX6 TX6 16, w ∈ wsX6_saysMany := fun _ h => List.mem_cons_of_mem _ (List.mem_append_right _ (h))
  have k1 := C.2.2.2.2.1 (.fieldLink RX6 7 "PulpitRoadsModel" "w" "[I") (List.mem_cons_of_mem _ (List.mem_append_left _ (List.mem_of_getElem? (i := 0) rfl)))
  unfold fn_X6_saysMany at h
  refine pw_aload_n C dX6_saysMany_0 rfl 0 rfl ?_
  refine pw_get (v := .ref (gad G 55)) C iX6 (by decide) (pw_sh_54 _) rfl 0 (by decide) k1 rfl dX6_saysMany_1 ?_
  refine pw_iload_n C dX6_saysMany_4 rfl 1 rfl ?_
  refine pw_iconst (v := (4 : Int32)) C dX6_saysMany_5 (by decide) ?_
  refine pw_iadd C dX6_saysMany_6 ?_
  refine pw_aload_n C dX6_saysMany_7 rfl 0 rfl ?_
  refine pw_get (v := .ref (gad G 55)) C iX6 (by decide) (pw_sh_54 _) rfl 0 (by decide) k1 rfl dX6_saysMany_8 ?_
  refine pw_iload_n C dX6_saysMany_11 rfl 1 rfl ?_
  refine pw_bipush (v := (19 : Int32)) C dX6_saysMany_12 (by decide) ?_
  refine pw_iadd C dX6_saysMany_14 ?_
  refine pw_iload_n C dX6_saysMany_15 rfl 2 rfl ?_
  refine pw_iadd C dX6_saysMany_16 ?_
  obtain ⟨hi17, h⟩ := fn_ix_s h
  refine pw_iald C (by decide) (pw_sh_55 _) hi17 dX6_saysMany_17 ?_
  refine pw_iadd C dX6_saysMany_18 ?_
  obtain ⟨hi19, h⟩ := fn_ix_s h
  refine pw_iald C (by decide) (pw_sh_55 _) hi19 dX6_saysMany_19 ?_
  refine pw_istore_n (lv' := [(3, .int (μ 55 (((a1 + (4 : Int32)) + (μ 55 (((a1 + (19 : Int32)) + a2)).toNatClampNeg))).toNatClampNeg)), (0, .ref (gad G 54)), (1, .int a1), (2, .int a2)]) C dX6_saysMany_20 rfl (by decide) rfl ?_
  refine pw_aload_n C dX6_saysMany_21 rfl 1 rfl ?_
  refine pw_get (v := .ref (gad G 55)) C iX6 (by decide) (pw_sh_54 _) rfl 0 (by decide) k1 rfl dX6_saysMany_22 ?_
  refine pw_iload_n C dX6_saysMany_25 rfl 2 rfl ?_
  refine pw_bipush (v := (13 : Int32)) C dX6_saysMany_26 (by decide) ?_
  refine pw_iadd C dX6_saysMany_28 ?_
  refine pw_iload_n C dX6_saysMany_29 rfl 3 rfl ?_
  refine pw_iadd C dX6_saysMany_30 ?_
  obtain ⟨hi31, h⟩ := fn_ix_s h
  refine pw_iald C (by decide) (pw_sh_55 _) hi31 dX6_saysMany_31 ?_
  refine pw_iconst (v := (4 : Int32)) C dX6_saysMany_32 (by decide) ?_
  refine pw_icmp_ne (tgt := 40) C dX6_saysMany_33 (by decide) (fun c33 => ?_) (fun c33 => ?_)
  · have h := fn_pos c33 h
    refine pw_iload_n C dX6_saysMany_40 rfl 0 rfl ?_
    refine pw_if_ne (tgt := 48) C dX6_saysMany_41 (by decide) (fun c41 => ?_) (fun c41 => ?_)
    · have h := fn_pos c41 h
      refine pw_iload_n C dX6_saysMany_48 rfl 0 rfl ?_
      refine pw_iconst (v := (1 : Int32)) C dX6_saysMany_49 (by decide) ?_
      refine pw_icmp_ne (tgt := 57) C dX6_saysMany_50 (by decide) (fun c50 => ?_) (fun c50 => ?_)
      · have h := fn_pos c50 h
        refine pw_iconst (v := (4 : Int32)) C dX6_saysMany_57 (by decide) ?_
        exact pw_iret C h dX6_saysMany_58
      · have h := fn_neg c50 h
        refine pw_iconst (v := (1 : Int32)) C dX6_saysMany_53 (by decide) ?_
        refine pw_goto (tgt := 58) C dX6_saysMany_54 (by decide) ?_
        exact pw_iret C h dX6_saysMany_58
    · have h := fn_neg c41 h
      refine pw_iconst (v := (3 : Int32)) C dX6_saysMany_44 (by decide) ?_
      refine pw_goto (tgt := 58) C dX6_saysMany_45 (by decide) ?_
      exact pw_iret C h dX6_saysMany_58
  · have h := fn_neg c33 h
    refine pw_iconst (v := (0 : Int32)) C dX6_saysMany_36 (by decide) ?_
    refine pw_goto (tgt := 58) C dX6_saysMany_37 (by decide) ?_
    exact pw_iret C h dX6_saysMany_58
set_option maxHeartbeats 4000000 in
set_option maxRecDepth 100000 in
theorem ct_X6_saysIn (l : Launch) {G : pw_G} (hG : pw_Ok G) {a1 : Int32} {a2 : Int32}  {μ μ' : pw_Mem} {r : Int32} (h : fn_X6_saysIn a1 a2 μ = some (r, μ')) : Met l yX6_saysIn wsX6_saysIn ({ frames := 1, cells := 0, slots := 0, locals := 23 }) (va_Pc [.ref (gad G 54), .int a1, .int a2] (pw_Pre G μ)) (va_Qi (fun (r1 : Int32) (u : pw_Mem) => r1 = r ∧ u = μ') (pw_B G) (gA G)) 0 0 (gA G) := by
  refine pw_met (lv := [(0, .ref (gad G 54)), (1, .int a1), (2, .int a2)]) (own := RX6) (cc := cX6_saysIn) (maxL := 7) (ret := some .int) hG rfl (by decide) rfl rfl (Nat.le_of_ble_eq_true rfl) ?_
  intro p e s m below meth c C
  have iX6 : ∀ w ∈ u_ws RX6 TX6 16, w ∈ wsX6_saysIn := fun _ h => List.mem_cons_of_mem _ (List.mem_append_right _ (h))
  have k1 := C.2.2.2.2.1 (.fieldLink RX6 7 "PulpitRoadsModel" "w" "[I") (List.mem_cons_of_mem _ (List.mem_append_left _ (List.mem_of_getElem? (i := 0) rfl)))
  unfold fn_X6_saysIn at h
  refine pw_iconst (v := (0 : Int32)) C dX6_saysIn_0 (by decide) ?_
  refine pw_istore_n (lv' := [(3, .int (0 : Int32)), (0, .ref (gad G 54)), (1, .int a1), (2, .int a2)]) C dX6_saysIn_1 rfl (by decide) rfl ?_
  refine pw_aload_n C dX6_saysIn_2 rfl 1 rfl ?_
  refine pw_get (v := .ref (gad G 55)) C iX6 (by decide) (pw_sh_54 _) rfl 0 (by decide) k1 rfl dX6_saysIn_3 ?_
  refine pw_iload_n C dX6_saysIn_6 rfl 2 rfl ?_
  refine pw_iconst (v := (2 : Int32)) C dX6_saysIn_7 (by decide) ?_
  refine pw_iadd C dX6_saysIn_8 ?_
  obtain ⟨hi9, h⟩ := fn_ix_s h
  refine pw_iald C (by decide) (pw_sh_55 _) hi9 dX6_saysIn_9 ?_
  refine pw_istore (lv' := [(4, .int (μ 55 ((a1 + (2 : Int32))).toNatClampNeg)), (3, .int (0 : Int32)), (0, .ref (gad G 54)), (1, .int a1), (2, .int a2)]) C dX6_saysIn_10 (by decide) rfl ?_
  refine pw_aload_n C dX6_saysIn_12 rfl 2 rfl ?_
  refine pw_get (v := .ref (gad G 55)) C iX6 (by decide) (pw_sh_54 _) rfl 0 (by decide) k1 rfl dX6_saysIn_13 ?_
  refine pw_iload_n C dX6_saysIn_16 rfl 3 rfl ?_
  refine pw_bipush (v := (13 : Int32)) C dX6_saysIn_17 (by decide) ?_
  refine pw_iadd C dX6_saysIn_19 ?_
  refine pw_iload_n C dX6_saysIn_20 rfl 4 rfl ?_
  refine pw_iadd C dX6_saysIn_21 ?_
  obtain ⟨hi22, h⟩ := fn_ix_s h
  refine pw_iald C (by decide) (pw_sh_55 _) hi22 dX6_saysIn_22 ?_
  refine pw_iconst (v := (5 : Int32)) C dX6_saysIn_23 (by decide) ?_
  refine fn_jn1_s (fun x35_0 m35 => pw_Go p l e ({ frames := 1, cells := 0, slots := 0, locals := 23 }) s m (([.ref (gad G 54), .int a1, .int a2] : List Value).toArray) below meth c (MQ below (va_Qi (fun (r1 : Int32) (u : pw_Mem) => r1 = r ∧ u = μ') (pw_B G) (gA G)) (([.ref (gad G 54), .int a1, .int a2] : List Value).toArray) s 0 0 (gA G)) G 7 35 [(0, .ref (gad G 54)), (1, .int a1), (2, .int a2), (3, .int (0 : Int32)), (4, .int (μ 55 ((a1 + (2 : Int32))).toNatClampNeg))] [.int x35_0] m35) h (fun x35_0 m35 h => ?_) (fun k35 hk35 h => ?_)
  · refine pw_istore (lv' := [(5, .int x35_0), (0, .ref (gad G 54)), (1, .int a1), (2, .int a2), (3, .int (0 : Int32)), (4, .int (μ 55 ((a1 + (2 : Int32))).toNatClampNeg))]) C dX6_saysIn_35 (by decide) rfl ?_
    refine pw_iconst (v := (0 : Int32)) C dX6_saysIn_37 (by decide) ?_
    refine pw_istore (lv' := [(6, .int (0 : Int32)), (5, .int x35_0), (0, .ref (gad G 54)), (1, .int a1), (2, .int a2), (3, .int (0 : Int32)), (4, .int (μ 55 ((a1 + (2 : Int32))).toNatClampNeg))]) C dX6_saysIn_38 (by decide) rfl ?_
    have L40 : ∀ (k : Int32 → pw_Mem → Option (Int32 × pw_Mem)) (hk : ∀ (v3 : Int32) (m1 : pw_Mem), k v3 m1 = some (r, μ') → pw_Go p l e ({ frames := 1, cells := 0, slots := 0, locals := 23 }) s m (([.ref (gad G 54), .int a1, .int a2] : List Value).toArray) below meth c (MQ below (va_Qi (fun (r1 : Int32) (u : pw_Mem) => r1 = r ∧ u = μ') (pw_B G) (gA G)) (([.ref (gad G 54), .int a1, .int a2] : List Value).toArray) s 0 0 (gA G)) G 7 82 [(3, .int v3)] [] m1) (n : Nat) (v3 : Int32) (v6 : Int32) (m1 : pw_Mem), fl_X6_saysIn_40 k a1 a2 (μ 55 ((a1 + (2 : Int32))).toNatClampNeg) x35_0 n v3 v6 m1 = some (r, μ') → pw_Go p l e ({ frames := 1, cells := 0, slots := 0, locals := 23 }) s m (([.ref (gad G 54), .int a1, .int a2] : List Value).toArray) below meth c (MQ below (va_Qi (fun (r1 : Int32) (u : pw_Mem) => r1 = r ∧ u = μ') (pw_B G) (gA G)) (([.ref (gad G 54), .int a1, .int a2] : List Value).toArray) s 0 0 (gA G)) G 7 40 [(0, .ref (gad G 54)), (1, .int a1), (2, .int a2), (3, .int v3), (4, .int (μ 55 ((a1 + (2 : Int32))).toNatClampNeg)), (5, .int x35_0), (6, .int v6)] [] m1 := by
      intro k hk n
      induction n with
      | zero => intro v3 v6 m1 h; exact nomatch (show (none : Option (Int32 × pw_Mem)) = some _ from h)
      | succ n ih =>
        intro v3 v6 m1 h
        rw [fl_X6_saysIn_40] at h
        refine pw_iload C dX6_saysIn_40 6 rfl ?_
        refine pw_aload_n C dX6_saysIn_42 rfl 0 rfl ?_
        refine pw_iload_n C dX6_saysIn_43 rfl 1 rfl ?_
        refine pw_iload_n C dX6_saysIn_44 rfl 2 rfl ?_
        obtain ⟨r45, m45, hc45, h⟩ := fn_bi_s h
        refine pw_callVi (rest := [.int v6]) C (by decide) (pw_sh_54 _) rfl (ct_X6_saysMany l C.2.2.2.2.2.2.2.2 hc45) (cwV 2 C.2.2.2.2.1 gX6_saysIn_X6_saysMany rfl rfl rfl (by decide +kernel) ⟨Nat.le_of_ble_eq_true rfl, Nat.le_of_ble_eq_true rfl⟩) rfl rfl (Nat.le_of_ble_eq_true rfl) dX6_saysIn_45 ?_
        refine pw_icmp_ge (tgt := 82) C dX6_saysIn_48 (by decide) (fun c48 => ?_) (fun c48 => ?_)
        · have h := fn_pos c48 h
          refine pw_sub [3] rfl ?_
          exact hk _ _ h
        · have h := fn_neg c48 h
          refine pw_iload_n C dX6_saysIn_51 rfl 3 rfl ?_
          refine pw_iconst (v := (1 : Int32)) C dX6_saysIn_52 (by decide) ?_
          refine pw_aload_n C dX6_saysIn_53 rfl 0 rfl ?_
          refine pw_get (v := .ref (gad G 55)) C iX6 (by decide) (pw_sh_54 _) rfl 0 (by decide) k1 rfl dX6_saysIn_54 ?_
          refine pw_iload_n C dX6_saysIn_57 rfl 1 rfl ?_
          refine pw_bipush (v := (24 : Int32)) C dX6_saysIn_58 (by decide) ?_
          refine pw_iadd C dX6_saysIn_60 ?_
          refine pw_iload_n C dX6_saysIn_61 rfl 2 rfl ?_
          refine pw_iadd C dX6_saysIn_62 ?_
          obtain ⟨hi63, h⟩ := fn_ix_s h
          refine pw_iald C (by decide) (pw_sh_55 _) hi63 dX6_saysIn_63 ?_
          refine pw_iload C dX6_saysIn_64 5 rfl ?_
          refine pw_iload C dX6_saysIn_66 6 rfl ?_
          refine pw_imul C dX6_saysIn_68 ?_
          refine pw_iadd C dX6_saysIn_69 ?_
          refine pw_iload C dX6_saysIn_70 4 rfl ?_
          obtain ⟨hz72, h⟩ := fn_nz_s h
          refine pw_irem C dX6_saysIn_72 hz72 ?_
          refine pw_ishl C dX6_saysIn_73 ?_
          refine pw_ior C dX6_saysIn_74 ?_
          refine pw_istore_n (lv' := [(3, .int (v3 ||| ((1 : Int32) <<< ((((m45 55 (((a1 + (24 : Int32)) + a2)).toNatClampNeg) + (x35_0 * v6)) - ((m45 55 (((a1 + (24 : Int32)) + a2)).toNatClampNeg) + (x35_0 * v6)) / (μ 55 ((a1 + (2 : Int32))).toNatClampNeg) * (μ 55 ((a1 + (2 : Int32))).toNatClampNeg)) &&& 31)))), (0, .ref (gad G 54)), (1, .int a1), (2, .int a2), (4, .int (μ 55 ((a1 + (2 : Int32))).toNatClampNeg)), (5, .int x35_0), (6, .int v6)]) C dX6_saysIn_75 rfl (by decide) rfl ?_
          refine pw_iinc (v := (v6 + 1)) (lv' := [(6, .int (v6 + 1)), (3, .int (v3 ||| ((1 : Int32) <<< ((((m45 55 (((a1 + (24 : Int32)) + a2)).toNatClampNeg) + (x35_0 * v6)) - ((m45 55 (((a1 + (24 : Int32)) + a2)).toNatClampNeg) + (x35_0 * v6)) / (μ 55 ((a1 + (2 : Int32))).toNatClampNeg) * (μ 55 ((a1 + (2 : Int32))).toNatClampNeg)) &&& 31)))), (0, .ref (gad G 54)), (1, .int a1), (2, .int a2), (4, .int (μ 55 ((a1 + (2 : Int32))).toNatClampNeg)), (5, .int x35_0)]) C dX6_saysIn_76 (q := 6) rfl rfl (by decide) rfl ?_
          refine pw_goto (tgt := 40) C dX6_saysIn_79 (by decide) ?_
          refine pw_sub [2, 3, 4, 1, 5, 6, 0] rfl ?_
          exact ih _ _ _ h
    refine pw_sub [2, 3, 4, 5, 6, 1, 0] rfl ?_
    refine L40 _ (fun y40_3 m82 h => ?_) _ _ _ _ h
    refine pw_iload_n C dX6_saysIn_82 rfl 0 rfl ?_
    exact pw_iret C h dX6_saysIn_83
  · refine pw_icmp_ne (tgt := 34) C dX6_saysIn_24 (by decide) (fun c24 => ?_) (fun c24 => ?_)
    · have h := fn_pos c24 h
      refine pw_iconst (v := (1 : Int32)) C dX6_saysIn_34 (by decide) ?_
      refine pw_sub [2, 3, 4, 1, 0] rfl ?_
      exact hk35 _ _ h
    · have h := fn_neg c24 h
      refine pw_iload C dX6_saysIn_27 0 rfl ?_
      refine pw_iconst (v := (1 : Int32)) C dX6_saysIn_29 (by decide) ?_
      refine pw_isub C dX6_saysIn_30 ?_
      refine pw_goto (tgt := 35) C dX6_saysIn_31 (by decide) ?_
      refine pw_sub [2, 3, 4, 1, 0] rfl ?_
      exact hk35 _ _ h
set_option maxHeartbeats 4000000 in
set_option maxRecDepth 100000 in
theorem ct_X6_passes (l : Launch) {G : pw_G} (hG : pw_Ok G) {a1 : Int32} {a2 : Int32}  {μ μ' : pw_Mem} (h : fn_X6_passes a1 a2 μ = some μ') : Met l yX6_passes wsX6_passes ({ frames := 2, cells := 0, slots := 0, locals := 49 }) (va_Pc [.ref (gad G 54), .int a1, .int a2] (pw_Pre G μ)) (va_Qv (fun (u : pw_Mem) => u = μ') (pw_B G) (gA G)) 0 0 (gA G) := by
  refine pw_met (lv := [(0, .ref (gad G 54)), (1, .int a1), (2, .int a2)]) (own := RX6) (cc := cX6_passes) (maxL := 10) (ret := none) hG rfl (by decide) rfl rfl (Nat.le_of_ble_eq_true rfl) ?_
  intro p e s m below meth c C
  have iX6 : ∀ w ∈ u_ws RX6 TX6 16, w ∈ wsX6_passes := fun _ h => List.mem_cons_of_mem _ (List.mem_append_right _ (h))
  have k1 := C.2.2.2.2.1 (.fieldLink RX6 7 "PulpitRoadsModel" "w" "[I") (List.mem_cons_of_mem _ (List.mem_append_left _ (List.mem_of_getElem? (i := 0) rfl)))
  unfold fn_X6_passes at h
  refine pw_aload_n C dX6_passes_0 rfl 0 rfl ?_
  refine pw_get (v := .ref (gad G 55)) C iX6 (by decide) (pw_sh_54 _) rfl 0 (by decide) k1 rfl dX6_passes_1 ?_
  refine pw_iload_n C dX6_passes_4 rfl 1 rfl ?_
  refine pw_iconst (v := (2 : Int32)) C dX6_passes_5 (by decide) ?_
  refine pw_iadd C dX6_passes_6 ?_
  obtain ⟨hi7, h⟩ := fn_ix_s h
  refine pw_iald C (by decide) (pw_sh_55 _) hi7 dX6_passes_7 ?_
  refine pw_istore_n (lv' := [(3, .int (μ 55 ((a1 + (2 : Int32))).toNatClampNeg)), (0, .ref (gad G 54)), (1, .int a1), (2, .int a2)]) C dX6_passes_8 rfl (by decide) rfl ?_
  refine pw_aload_n C dX6_passes_9 rfl 1 rfl ?_
  refine pw_iload_n C dX6_passes_10 rfl 2 rfl ?_
  refine pw_iload_n C dX6_passes_11 rfl 3 rfl ?_
  obtain ⟨r12, m12, hc12, h⟩ := fn_bi_s h
  refine pw_callVi (rest := []) C (by decide) (pw_sh_54 _) rfl (ct_X6_saysIn l C.2.2.2.2.2.2.2.2 hc12) (cwV 2 C.2.2.2.2.1 gX6_passes_X6_saysIn rfl rfl rfl (by decide +kernel) ⟨Nat.le_of_ble_eq_true rfl, Nat.le_of_ble_eq_true rfl⟩) rfl rfl (Nat.le_of_ble_eq_true rfl) dX6_passes_12 ?_
  refine pw_istore (lv' := [(4, .int r12), (3, .int (μ 55 ((a1 + (2 : Int32))).toNatClampNeg)), (0, .ref (gad G 54)), (1, .int a1), (2, .int a2)]) C dX6_passes_15 (by decide) rfl ?_
  refine pw_aload_n C dX6_passes_17 rfl 2 rfl ?_
  refine pw_iload_n C dX6_passes_18 rfl 3 rfl ?_
  refine pw_iload_n C dX6_passes_19 rfl 4 rfl ?_
  obtain ⟨r20, m20, hc20, h⟩ := fn_bi_s h
  refine pw_callVi (rest := []) C (by decide) (pw_sh_54 _) rfl (ct_X6_saysMany l C.2.2.2.2.2.2.2.2 hc20) (cwV 2 C.2.2.2.2.1 gX6_passes_X6_saysMany rfl rfl rfl (by decide +kernel) ⟨Nat.le_of_ble_eq_true rfl, Nat.le_of_ble_eq_true rfl⟩) rfl rfl (Nat.le_of_ble_eq_true rfl) dX6_passes_20 ?_
  refine pw_istore (lv' := [(5, .int r20), (4, .int r12), (3, .int (μ 55 ((a1 + (2 : Int32))).toNatClampNeg)), (0, .ref (gad G 54)), (1, .int a1), (2, .int a2)]) C dX6_passes_23 (by decide) rfl ?_
  refine pw_aload_n C dX6_passes_25 rfl 3 rfl ?_
  refine pw_get (v := .ref (gad G 55)) C iX6 (by decide) (pw_sh_54 _) rfl 0 (by decide) k1 rfl dX6_passes_26 ?_
  refine pw_iload_n C dX6_passes_29 rfl 4 rfl ?_
  refine pw_bipush (v := (19 : Int32)) C dX6_passes_30 (by decide) ?_
  refine pw_iadd C dX6_passes_32 ?_
  refine pw_iload_n C dX6_passes_33 rfl 5 rfl ?_
  refine pw_iadd C dX6_passes_34 ?_
  obtain ⟨hi35, h⟩ := fn_ix_s h
  refine pw_iald C (by decide) (pw_sh_55 _) hi35 dX6_passes_35 ?_
  refine pw_istore (lv' := [(6, .int (m20 55 (((a1 + (19 : Int32)) + a2)).toNatClampNeg)), (5, .int r20), (4, .int r12), (3, .int (μ 55 ((a1 + (2 : Int32))).toNatClampNeg)), (0, .ref (gad G 54)), (1, .int a1), (2, .int a2)]) C dX6_passes_36 (by decide) rfl ?_
  refine pw_aload_n C dX6_passes_38 rfl 4 rfl ?_
  refine pw_get (v := .ref (gad G 55)) C iX6 (by decide) (pw_sh_54 _) rfl 0 (by decide) k1 rfl dX6_passes_39 ?_
  refine pw_iload_n C dX6_passes_42 rfl 5 rfl ?_
  refine pw_bipush (v := (13 : Int32)) C dX6_passes_43 (by decide) ?_
  refine pw_iadd C dX6_passes_45 ?_
  refine pw_iload_n C dX6_passes_46 rfl 6 rfl ?_
  refine pw_iadd C dX6_passes_47 ?_
  obtain ⟨hi48, h⟩ := fn_ix_s h
  refine pw_iald C (by decide) (pw_sh_55 _) hi48 dX6_passes_48 ?_
  refine pw_istore (lv' := [(7, .int (m20 55 (((a1 + (13 : Int32)) + a2)).toNatClampNeg)), (6, .int (m20 55 (((a1 + (19 : Int32)) + a2)).toNatClampNeg)), (5, .int r20), (4, .int r12), (3, .int (μ 55 ((a1 + (2 : Int32))).toNatClampNeg)), (0, .ref (gad G 54)), (1, .int a1), (2, .int a2)]) C dX6_passes_49 (by decide) rfl ?_
  refine pw_aload_n C dX6_passes_51 rfl 5 rfl ?_
  refine pw_get (v := .ref (gad G 55)) C iX6 (by decide) (pw_sh_54 _) rfl 0 (by decide) k1 rfl dX6_passes_52 ?_
  refine pw_iload_n C dX6_passes_55 rfl 6 rfl ?_
  refine pw_bipush (v := (29 : Int32)) C dX6_passes_56 (by decide) ?_
  refine pw_iadd C dX6_passes_58 ?_
  refine pw_iload C dX6_passes_59 1 rfl ?_
  refine pw_iadd C dX6_passes_61 ?_
  refine pw_dup2 C dX6_passes_62 rfl rfl ?_
  obtain ⟨hi63, h⟩ := fn_ix_s h
  refine pw_iald C (by decide) (pw_sh_55 _) hi63 dX6_passes_63 ?_
  refine pw_iload C dX6_passes_64 3 rfl ?_
  refine pw_ior C dX6_passes_66 ?_
  obtain ⟨hi67, h⟩ := fn_ix_s h
  refine pw_iast C (by decide) pw_sh_55 hi67 dX6_passes_67 ?_
  refine pw_aload_n C dX6_passes_68 rfl 5 rfl ?_
  refine pw_get (v := .ref (gad G 55)) C iX6 (by decide) (pw_sh_54 _) rfl 0 (by decide) k1 rfl dX6_passes_69 ?_
  refine pw_iload_n C dX6_passes_72 rfl 6 rfl ?_
  refine pw_bipush (v := (24 : Int32)) C dX6_passes_73 (by decide) ?_
  refine pw_iadd C dX6_passes_75 ?_
  refine pw_iload_n C dX6_passes_76 rfl 7 rfl ?_
  refine pw_iadd C dX6_passes_77 ?_
  refine pw_iload C dX6_passes_78 0 rfl ?_
  refine pw_iconst (v := (5 : Int32)) C dX6_passes_80 (by decide) ?_
  refine fn_jn1_s (fun x123_0 m123 => pw_Go p l e ({ frames := 2, cells := 0, slots := 0, locals := 49 }) s m (([.ref (gad G 54), .int a1, .int a2] : List Value).toArray) below meth c (MQ below (va_Qv (fun (u : pw_Mem) => u = μ') (pw_B G) (gA G)) (([.ref (gad G 54), .int a1, .int a2] : List Value).toArray) s 0 0 (gA G)) G 10 123 [(0, .ref (gad G 54)), (1, .int a1), (2, .int a2), (4, .int r12), (6, .int (m20 55 (((a1 + (19 : Int32)) + a2)).toNatClampNeg)), (7, .int (m20 55 (((a1 + (13 : Int32)) + a2)).toNatClampNeg))] [.int x123_0, .int ((a1 + (24 : Int32)) + a2), .ref (gad G 55)] m123) h (fun x123_0 m123 h => ?_) (fun k123 hk123 h => ?_)
  · obtain ⟨hi123, h⟩ := fn_ix_s h
    refine pw_iast C (by decide) pw_sh_55 hi123 dX6_passes_123 ?_
    refine pw_iload C dX6_passes_124 5 rfl ?_
    refine pw_iconst (v := (3 : Int32)) C dX6_passes_126 (by decide) ?_
    refine fn_jn1_s (fun x151_0 m151 => pw_Go p l e ({ frames := 2, cells := 0, slots := 0, locals := 49 }) s m (([.ref (gad G 54), .int a1, .int a2] : List Value).toArray) below meth c (MQ below (va_Qv (fun (u : pw_Mem) => u = μ') (pw_B G) (gA G)) (([.ref (gad G 54), .int a1, .int a2] : List Value).toArray) s 0 0 (gA G)) G 10 151 [(0, .ref (gad G 54)), (1, .int a1), (2, .int a2), (6, .int (m20 55 (((a1 + (19 : Int32)) + a2)).toNatClampNeg)), (7, .int (m20 55 (((a1 + (13 : Int32)) + a2)).toNatClampNeg))] [.int x151_0] m151) h (fun x151_0 m151 h => ?_) (fun k151 hk151 h => ?_)
    · refine pw_istore (lv' := [(8, .int x151_0), (0, .ref (gad G 54)), (1, .int a1), (2, .int a2), (6, .int (m20 55 (((a1 + (19 : Int32)) + a2)).toNatClampNeg)), (7, .int (m20 55 (((a1 + (13 : Int32)) + a2)).toNatClampNeg))]) C dX6_passes_151 (by decide) rfl ?_
      refine pw_iload C dX6_passes_153 0 rfl ?_
      refine fn_jn1_s (fun x182_0 m182 => pw_Go p l e ({ frames := 2, cells := 0, slots := 0, locals := 49 }) s m (([.ref (gad G 54), .int a1, .int a2] : List Value).toArray) below meth c (MQ below (va_Qv (fun (u : pw_Mem) => u = μ') (pw_B G) (gA G)) (([.ref (gad G 54), .int a1, .int a2] : List Value).toArray) s 0 0 (gA G)) G 10 182 [(0, .ref (gad G 54)), (1, .int a1), (2, .int a2), (6, .int (m20 55 (((a1 + (19 : Int32)) + a2)).toNatClampNeg))] [.int x182_0] m182) h (fun x182_0 m182 h => ?_) (fun k182 hk182 h => ?_)
      · refine pw_istore (lv' := [(9, .int x182_0), (0, .ref (gad G 54)), (1, .int a1), (2, .int a2), (6, .int (m20 55 (((a1 + (19 : Int32)) + a2)).toNatClampNeg))]) C dX6_passes_182 (by decide) rfl ?_
        refine pw_aload_n C dX6_passes_184 rfl 1 rfl ?_
        refine pw_get (v := .ref (gad G 55)) C iX6 (by decide) (pw_sh_54 _) rfl 0 (by decide) k1 rfl dX6_passes_185 ?_
        refine pw_iload_n C dX6_passes_188 rfl 2 rfl ?_
        refine pw_bipush (v := (19 : Int32)) C dX6_passes_189 (by decide) ?_
        refine pw_iadd C dX6_passes_191 ?_
        refine pw_iload_n C dX6_passes_192 rfl 3 rfl ?_
        refine pw_iadd C dX6_passes_193 ?_
        refine pw_iload C dX6_passes_194 4 rfl ?_
        refine pw_iload C dX6_passes_196 0 rfl ?_
        refine pw_iadd C dX6_passes_198 ?_
        refine pw_aload_n C dX6_passes_199 rfl 1 rfl ?_
        refine pw_get (v := .ref (gad G 55)) C iX6 (by decide) (pw_sh_54 _) rfl 0 (by decide) k1 rfl dX6_passes_200 ?_
        refine pw_iload_n C dX6_passes_203 rfl 2 rfl ?_
        refine pw_iconst (v := (0 : Int32)) C dX6_passes_204 (by decide) ?_
        refine pw_iadd C dX6_passes_205 ?_
        obtain ⟨hi206, h⟩ := fn_ix_s h
        refine pw_iald C (by decide) (pw_sh_55 _) hi206 dX6_passes_206 ?_
        obtain ⟨hz207, h⟩ := fn_nz_s h
        refine pw_irem C dX6_passes_207 hz207 ?_
        obtain ⟨hi208, h⟩ := fn_ix_s h
        refine pw_iast C (by decide) pw_sh_55 hi208 dX6_passes_208 ?_
        exact pw_vret C h dX6_passes_209
      · refine pw_if_eq (tgt := 162) C dX6_passes_155 (by decide) (fun c155 => ?_) (fun c155 => ?_)
        · have h := fn_pos c155 h
          refine pw_iload C dX6_passes_162 5 rfl ?_
          refine pw_iconst (v := (2 : Int32)) C dX6_passes_164 (by decide) ?_
          refine pw_icmp_ne (tgt := 181) C dX6_passes_165 (by decide) (fun c165 => ?_) (fun c165 => ?_)
          · have h := fn_pos c165 h
            refine pw_iconst (v := (1 : Int32)) C dX6_passes_181 (by decide) ?_
            refine pw_sub [1, 2, 3, 4] rfl ?_
            exact hk182 _ _ h
          · have h := fn_neg c165 h
            refine pw_aload_n C dX6_passes_168 rfl 1 rfl ?_
            refine pw_get (v := .ref (gad G 55)) C iX6 (by decide) (pw_sh_54 _) rfl 0 (by decide) k1 rfl dX6_passes_169 ?_
            refine pw_iload_n C dX6_passes_172 rfl 2 rfl ?_
            refine pw_iconst (v := (0 : Int32)) C dX6_passes_173 (by decide) ?_
            refine pw_iadd C dX6_passes_174 ?_
            obtain ⟨hi175, h⟩ := fn_ix_s h
            refine pw_iald C (by decide) (pw_sh_55 _) hi175 dX6_passes_175 ?_
            refine pw_iconst (v := (1 : Int32)) C dX6_passes_176 (by decide) ?_
            refine pw_isub C dX6_passes_177 ?_
            refine pw_goto (tgt := 182) C dX6_passes_178 (by decide) ?_
            refine pw_sub [1, 2, 3, 4] rfl ?_
            exact hk182 _ _ h
        · have h := fn_neg c155 h
          refine pw_iconst (v := (0 : Int32)) C dX6_passes_158 (by decide) ?_
          refine pw_goto (tgt := 182) C dX6_passes_159 (by decide) ?_
          refine pw_sub [1, 2, 3, 4] rfl ?_
          exact hk182 _ _ h
    · refine fn_jn0_s (fun m150 => pw_Go p l e ({ frames := 2, cells := 0, slots := 0, locals := 49 }) s m (([.ref (gad G 54), .int a1, .int a2] : List Value).toArray) below meth c (MQ below (va_Qv (fun (u : pw_Mem) => u = μ') (pw_B G) (gA G)) (([.ref (gad G 54), .int a1, .int a2] : List Value).toArray) s 0 0 (gA G)) G 10 150 [(0, .ref (gad G 54)), (1, .int a1), (2, .int a2), (6, .int (m20 55 (((a1 + (19 : Int32)) + a2)).toNatClampNeg)), (7, .int (m20 55 (((a1 + (13 : Int32)) + a2)).toNatClampNeg))] [] m150) h (fun m150 h => ?_) (fun k150 hk150 h => ?_)
      · refine pw_iconst (v := (0 : Int32)) C dX6_passes_150 (by decide) ?_
        exact hk151 _ _ h
      · refine pw_icmp_ne (tgt := 150) C dX6_passes_127 (by decide) (fun c127 => ?_) (fun c127 => ?_)
        · have h := fn_pos c127 h
          refine pw_sub [0, 1, 2, 4, 5] rfl ?_
          exact hk150 _ h
        · have h := fn_neg c127 h
          refine pw_iload C dX6_passes_130 3 rfl ?_
          refine pw_aload_n C dX6_passes_132 rfl 0 rfl ?_
          refine pw_get (v := .ref (gad G 55)) C iX6 (by decide) (pw_sh_54 _) rfl 0 (by decide) k1 rfl dX6_passes_133 ?_
          refine pw_iload_n C dX6_passes_136 rfl 1 rfl ?_
          refine pw_iconst (v := (3 : Int32)) C dX6_passes_137 (by decide) ?_
          refine pw_iadd C dX6_passes_138 ?_
          obtain ⟨hi139, h⟩ := fn_ix_s h
          refine pw_iald C (by decide) (pw_sh_55 _) hi139 dX6_passes_139 ?_
          obtain ⟨r140, m140, hc140, h⟩ := fn_bi_s h
          refine pw_callSi (rest := []) C (ct_X6_has l C.2.2.2.2.2.2.2.2 hc140) (va_cwS 2 C.2.2.2.2.1 gX6_passes_X6_has rfl rfl rfl (by decide +kernel) ⟨Nat.le_of_ble_eq_true rfl, Nat.le_of_ble_eq_true rfl⟩) rfl rfl (Nat.le_of_ble_eq_true rfl) dX6_passes_140 ?_
          refine pw_if_eq (tgt := 150) C dX6_passes_143 (by decide) (fun c143 => ?_) (fun c143 => ?_)
          · have h := fn_pos c143 h
            refine pw_sub [0, 1, 2, 4, 5] rfl ?_
            exact hk150 _ h
          · have h := fn_neg c143 h
            refine pw_iconst (v := (1 : Int32)) C dX6_passes_146 (by decide) ?_
            refine pw_goto (tgt := 151) C dX6_passes_147 (by decide) ?_
            refine pw_sub [0, 1, 2, 4, 5] rfl ?_
            exact hk151 _ _ h
  · refine pw_icmp_ne (tgt := 107) C dX6_passes_81 (by decide) (fun c81 => ?_) (fun c81 => ?_)
    · have h := fn_pos c81 h
      refine pw_aload_n C dX6_passes_107 rfl 5 rfl ?_
      refine pw_get (v := .ref (gad G 55)) C iX6 (by decide) (pw_sh_54 _) rfl 0 (by decide) k1 rfl dX6_passes_108 ?_
      refine pw_iload_n C dX6_passes_111 rfl 6 rfl ?_
      refine pw_bipush (v := (24 : Int32)) C dX6_passes_112 (by decide) ?_
      refine pw_iadd C dX6_passes_114 ?_
      refine pw_iload_n C dX6_passes_115 rfl 7 rfl ?_
      refine pw_iadd C dX6_passes_116 ?_
      obtain ⟨hi117, h⟩ := fn_ix_s h
      refine pw_iald C (by decide) (pw_sh_55 _) hi117 dX6_passes_117 ?_
      refine pw_iload C dX6_passes_118 2 rfl ?_
      refine pw_iadd C dX6_passes_120 ?_
      refine pw_iload_n C dX6_passes_121 rfl 4 rfl ?_
      obtain ⟨hz122, h⟩ := fn_nz_s h
      refine pw_irem C dX6_passes_122 hz122 ?_
      refine pw_sub [5, 6, 7, 3, 1, 0] rfl ?_
      exact hk123 _ _ h
    · have h := fn_neg c81 h
      refine pw_aload_n C dX6_passes_84 rfl 5 rfl ?_
      refine pw_get (v := .ref (gad G 55)) C iX6 (by decide) (pw_sh_54 _) rfl 0 (by decide) k1 rfl dX6_passes_85 ?_
      refine pw_iload_n C dX6_passes_88 rfl 6 rfl ?_
      refine pw_bipush (v := (24 : Int32)) C dX6_passes_89 (by decide) ?_
      refine pw_iadd C dX6_passes_91 ?_
      refine pw_iload_n C dX6_passes_92 rfl 7 rfl ?_
      refine pw_iadd C dX6_passes_93 ?_
      obtain ⟨hi94, h⟩ := fn_ix_s h
      refine pw_iald C (by decide) (pw_sh_55 _) hi94 dX6_passes_94 ?_
      refine pw_iload_n C dX6_passes_95 rfl 4 rfl ?_
      refine pw_iconst (v := (4 : Int32)) C dX6_passes_96 (by decide) ?_
      refine pw_imul C dX6_passes_97 ?_
      refine pw_iadd C dX6_passes_98 ?_
      refine pw_iload C dX6_passes_99 2 rfl ?_
      refine pw_isub C dX6_passes_101 ?_
      refine pw_iload_n C dX6_passes_102 rfl 4 rfl ?_
      obtain ⟨hz103, h⟩ := fn_nz_s h
      refine pw_irem C dX6_passes_103 hz103 ?_
      refine pw_goto (tgt := 123) C dX6_passes_104 (by decide) ?_
      refine pw_sub [5, 6, 7, 3, 1, 0] rfl ?_
      exact hk123 _ _ h
set_option maxHeartbeats 4000000 in
set_option maxRecDepth 100000 in
theorem ct_X6_councilsIn (l : Launch) {G : pw_G} (hG : pw_Ok G) {a1 : Int32}  {μ μ' : pw_Mem} {r : Int32} (h : fn_X6_councilsIn a1 μ = some (r, μ')) : Met l yX6_councilsIn wsX6_councilsIn ({ frames := 0, cells := 0, slots := 0, locals := 0 }) (va_Pc [.ref (gad G 54), .int a1] (pw_Pre G μ)) (va_Qi (fun (r1 : Int32) (u : pw_Mem) => r1 = r ∧ u = μ') (pw_B G) (gA G)) 0 0 (gA G) := by
  refine pw_met (lv := [(0, .ref (gad G 54)), (1, .int a1)]) (own := RX6) (cc := cX6_councilsIn) (maxL := 5) (ret := some .int) hG rfl (by decide) rfl rfl (Nat.le_of_ble_eq_true rfl) ?_
  intro p e s m below meth c C
  have iX6 : ∀ w ∈ u_ws RX6 TX6 16, w ∈ wsX6_councilsIn := fun _ h => List.mem_cons_of_mem _ (List.mem_append_right _ (h))
  have k1 := C.2.2.2.2.1 (.fieldLink RX6 7 "PulpitRoadsModel" "w" "[I") (List.mem_cons_of_mem _ (List.mem_append_left _ (List.mem_of_getElem? (i := 0) rfl)))
  unfold fn_X6_councilsIn at h
  refine pw_iconst (v := (0 : Int32)) C dX6_councilsIn_0 (by decide) ?_
  refine pw_istore_n (lv' := [(2, .int (0 : Int32)), (0, .ref (gad G 54)), (1, .int a1)]) C dX6_councilsIn_1 rfl (by decide) rfl ?_
  refine pw_iconst (v := (0 : Int32)) C dX6_councilsIn_2 (by decide) ?_
  refine pw_istore_n (lv' := [(3, .int (0 : Int32)), (2, .int (0 : Int32)), (0, .ref (gad G 54)), (1, .int a1)]) C dX6_councilsIn_3 rfl (by decide) rfl ?_
  have L4 : ∀ (k : Int32 → pw_Mem → Option (Int32 × pw_Mem)) (hk : ∀ (v2 : Int32) (m1 : pw_Mem), k v2 m1 = some (r, μ') → pw_Go p l e ({ frames := 0, cells := 0, slots := 0, locals := 0 }) s m (([.ref (gad G 54), .int a1] : List Value).toArray) below meth c (MQ below (va_Qi (fun (r1 : Int32) (u : pw_Mem) => r1 = r ∧ u = μ') (pw_B G) (gA G)) (([.ref (gad G 54), .int a1] : List Value).toArray) s 0 0 (gA G)) G 5 73 [(2, .int v2)] [] m1) (n : Nat) (v2 : Int32) (v3 : Int32) (m1 : pw_Mem), fl_X6_councilsIn_4 k a1 n v2 v3 m1 = some (r, μ') → pw_Go p l e ({ frames := 0, cells := 0, slots := 0, locals := 0 }) s m (([.ref (gad G 54), .int a1] : List Value).toArray) below meth c (MQ below (va_Qi (fun (r1 : Int32) (u : pw_Mem) => r1 = r ∧ u = μ') (pw_B G) (gA G)) (([.ref (gad G 54), .int a1] : List Value).toArray) s 0 0 (gA G)) G 5 4 [(0, .ref (gad G 54)), (1, .int a1), (2, .int v2), (3, .int v3)] [] m1 := by
    intro k hk n
    induction n with
    | zero => intro v2 v3 m1 h; exact nomatch (show (none : Option (Int32 × pw_Mem)) = some _ from h)
    | succ n ih =>
      intro v2 v3 m1 h
      rw [fl_X6_councilsIn_4] at h
      refine pw_iload_n C dX6_councilsIn_4 rfl 3 rfl ?_
      refine pw_aload_n C dX6_councilsIn_5 rfl 0 rfl ?_
      refine pw_get (v := .ref (gad G 55)) C iX6 (by decide) (pw_sh_54 _) rfl 0 (by decide) k1 rfl dX6_councilsIn_6 ?_
      refine pw_iload_n C dX6_councilsIn_9 rfl 1 rfl ?_
      refine pw_iconst (v := (1 : Int32)) C dX6_councilsIn_10 (by decide) ?_
      refine pw_iadd C dX6_councilsIn_11 ?_
      obtain ⟨hi12, h⟩ := fn_ix_s h
      refine pw_iald C (by decide) (pw_sh_55 _) hi12 dX6_councilsIn_12 ?_
      refine pw_icmp_ge (tgt := 73) C dX6_councilsIn_13 (by decide) (fun c13 => ?_) (fun c13 => ?_)
      · have h := fn_pos c13 h
        refine pw_sub [2] rfl ?_
        exact hk _ _ h
      · have h := fn_neg c13 h
        refine pw_iconst (v := (0 : Int32)) C dX6_councilsIn_16 (by decide) ?_
        refine pw_istore (lv' := [(4, .int (0 : Int32)), (0, .ref (gad G 54)), (1, .int a1), (2, .int v2), (3, .int v3)]) C dX6_councilsIn_17 (by decide) rfl ?_
        have L19 : ∀ (k : Int32 → pw_Mem → Option (Int32 × pw_Mem)) (hk : ∀ (v2 : Int32) (m1 : pw_Mem), k v2 m1 = some (r, μ') → pw_Go p l e ({ frames := 0, cells := 0, slots := 0, locals := 0 }) s m (([.ref (gad G 54), .int a1] : List Value).toArray) below meth c (MQ below (va_Qi (fun (r1 : Int32) (u : pw_Mem) => r1 = r ∧ u = μ') (pw_B G) (gA G)) (([.ref (gad G 54), .int a1] : List Value).toArray) s 0 0 (gA G)) G 5 67 [(0, .ref (gad G 54)), (1, .int a1), (2, .int v2), (3, .int v3)] [] m1) (n : Nat) (v2 : Int32) (v4 : Int32) (m1 : pw_Mem), fl_X6_councilsIn_19 k a1 v3 n v2 v4 m1 = some (r, μ') → pw_Go p l e ({ frames := 0, cells := 0, slots := 0, locals := 0 }) s m (([.ref (gad G 54), .int a1] : List Value).toArray) below meth c (MQ below (va_Qi (fun (r1 : Int32) (u : pw_Mem) => r1 = r ∧ u = μ') (pw_B G) (gA G)) (([.ref (gad G 54), .int a1] : List Value).toArray) s 0 0 (gA G)) G 5 19 [(0, .ref (gad G 54)), (1, .int a1), (2, .int v2), (3, .int v3), (4, .int v4)] [] m1 := by
          intro k hk n
          induction n with
          | zero => intro v2 v4 m1 h; exact nomatch (show (none : Option (Int32 × pw_Mem)) = some _ from h)
          | succ n ih =>
            intro v2 v4 m1 h
            rw [fl_X6_councilsIn_19] at h
            refine pw_iload C dX6_councilsIn_19 4 rfl ?_
            refine pw_iload_n C dX6_councilsIn_21 rfl 3 rfl ?_
            refine pw_icmp_ge (tgt := 67) C dX6_councilsIn_22 (by decide) (fun c22 => ?_) (fun c22 => ?_)
            · have h := fn_pos c22 h
              refine pw_sub [0, 1, 2, 3] rfl ?_
              exact hk _ _ h
            · have h := fn_neg c22 h
              refine pw_iload_n C dX6_councilsIn_25 rfl 2 rfl ?_
              refine pw_aload_n C dX6_councilsIn_26 rfl 0 rfl ?_
              refine pw_get (v := .ref (gad G 55)) C iX6 (by decide) (pw_sh_54 _) rfl 0 (by decide) k1 rfl dX6_councilsIn_27 ?_
              refine pw_iload_n C dX6_councilsIn_30 rfl 1 rfl ?_
              refine pw_bipush (v := (19 : Int32)) C dX6_councilsIn_31 (by decide) ?_
              refine pw_iadd C dX6_councilsIn_33 ?_
              refine pw_iload_n C dX6_councilsIn_34 rfl 3 rfl ?_
              refine pw_iadd C dX6_councilsIn_35 ?_
              obtain ⟨hi36, h⟩ := fn_ix_s h
              refine pw_iald C (by decide) (pw_sh_55 _) hi36 dX6_councilsIn_36 ?_
              refine pw_aload_n C dX6_councilsIn_37 rfl 0 rfl ?_
              refine pw_get (v := .ref (gad G 55)) C iX6 (by decide) (pw_sh_54 _) rfl 0 (by decide) k1 rfl dX6_councilsIn_38 ?_
              refine pw_iload_n C dX6_councilsIn_41 rfl 1 rfl ?_
              refine pw_bipush (v := (19 : Int32)) C dX6_councilsIn_42 (by decide) ?_
              refine pw_iadd C dX6_councilsIn_44 ?_
              refine pw_iload C dX6_councilsIn_45 4 rfl ?_
              refine pw_iadd C dX6_councilsIn_47 ?_
              obtain ⟨hi48, h⟩ := fn_ix_s h
              refine pw_iald C (by decide) (pw_sh_55 _) hi48 dX6_councilsIn_48 ?_
              refine fn_jn1_s (fun x59_0 m59 => pw_Go p l e ({ frames := 0, cells := 0, slots := 0, locals := 0 }) s m (([.ref (gad G 54), .int a1] : List Value).toArray) below meth c (MQ below (va_Qi (fun (r1 : Int32) (u : pw_Mem) => r1 = r ∧ u = μ') (pw_B G) (gA G)) (([.ref (gad G 54), .int a1] : List Value).toArray) s 0 0 (gA G)) G 5 59 [(0, .ref (gad G 54)), (1, .int a1), (3, .int v3), (4, .int v4)] [.int x59_0, .int v2] m59) h (fun x59_0 m59 h => ?_) (fun k59 hk59 h => ?_)
              · refine pw_ior C dX6_councilsIn_59 ?_
                refine pw_istore_n (lv' := [(2, .int (v2 ||| x59_0)), (0, .ref (gad G 54)), (1, .int a1), (3, .int v3), (4, .int v4)]) C dX6_councilsIn_60 rfl (by decide) rfl ?_
                refine pw_iinc (v := (v4 + 1)) (lv' := [(4, .int (v4 + 1)), (2, .int (v2 ||| x59_0)), (0, .ref (gad G 54)), (1, .int a1), (3, .int v3)]) C dX6_councilsIn_61 (q := 4) rfl rfl (by decide) rfl ?_
                refine pw_goto (tgt := 19) C dX6_councilsIn_64 (by decide) ?_
                refine pw_sub [2, 3, 1, 4, 0] rfl ?_
                exact ih _ _ _ h
              · refine pw_icmp_ne (tgt := 58) C dX6_councilsIn_49 (by decide) (fun c49 => ?_) (fun c49 => ?_)
                · have h := fn_pos c49 h
                  refine pw_iconst (v := (0 : Int32)) C dX6_councilsIn_58 (by decide) ?_
                  refine pw_sub [0, 1, 3, 4] rfl ?_
                  exact hk59 _ _ h
                · have h := fn_neg c49 h
                  refine pw_iconst (v := (1 : Int32)) C dX6_councilsIn_52 (by decide) ?_
                  refine pw_iload_n C dX6_councilsIn_53 rfl 3 rfl ?_
                  refine pw_ishl C dX6_councilsIn_54 ?_
                  refine pw_goto (tgt := 59) C dX6_councilsIn_55 (by decide) ?_
                  refine pw_sub [0, 1, 3, 4] rfl ?_
                  exact hk59 _ _ h
        refine pw_sub [1, 2, 3, 4, 0] rfl ?_
        refine L19 _ (fun y19_2 m67 h => ?_) _ _ _ _ h
        refine pw_iinc (v := (v3 + 1)) (lv' := [(3, .int (v3 + 1)), (0, .ref (gad G 54)), (1, .int a1), (2, .int y19_2)]) C dX6_councilsIn_67 (q := 3) rfl rfl (by decide) rfl ?_
        refine pw_goto (tgt := 4) C dX6_councilsIn_70 (by decide) ?_
        refine pw_sub [1, 2, 3, 0] rfl ?_
        exact ih _ _ _ h
  refine pw_sub [2, 3, 1, 0] rfl ?_
  refine L4 _ (fun y4_2 m73 h => ?_) _ _ _ _ h
  refine pw_iload_n C dX6_councilsIn_73 rfl 0 rfl ?_
  exact pw_iret C h dX6_councilsIn_74
