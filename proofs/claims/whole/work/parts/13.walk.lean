set_option maxHeartbeats 4000000 in
set_option maxRecDepth 100000 in
theorem ct_X6_hourBy (l : Launch) {G : pw_G} (hG : pw_Ok G) {a1 : Int32} {a2 : Int32}  {μ μ' : pw_Mem} (h : fn_X6_hourBy a1 a2 μ = some μ') : Met l yX6_hourBy wsX6_hourBy ({ frames := 3, cells := 0, slots := 0, locals := 78 }) (va_Pc [.ref (gad G 54), .int a1, .int a2] (pw_Pre G μ)) (va_Qv (fun (u : pw_Mem) => u = μ') (pw_B G) (gA G)) 0 0 (gA G) := by
  refine pw_met (lv := [(0, .ref (gad G 54)), (1, .int a1), (2, .int a2)]) (own := RX6) (cc := cX6_hourBy) (maxL := 5) (ret := none) hG rfl (by decide) rfl rfl (Nat.le_of_ble_eq_true rfl) ?_
  intro p e s m below meth c C
  have iX6 : ∀ w ∈ u_ws RX6 TX6 16, w ∈ wsX6_hourBy := fun _ h => List.mem_cons_of_mem _ (List.mem_append_right _ (h))
  have k1 := C.2.2.2.2.1 (.fieldLink RX6 7 "PulpitRoadsModel" "w" "[I") (List.mem_cons_of_mem _ (List.mem_append_left _ (List.mem_of_getElem? (i := 0) rfl)))
  unfold fn_X6_hourBy at h
  refine pw_aload_n C dX6_hourBy_0 rfl 0 rfl ?_
  refine pw_iload_n C dX6_hourBy_1 rfl 1 rfl ?_
  obtain ⟨r2, m2, hc2, h⟩ := fn_bi_s h
  refine pw_callVi (rest := []) C (by decide) (pw_sh_54 _) rfl (ct_X6_councilsIn l C.2.2.2.2.2.2.2.2 hc2) (cwV 1 C.2.2.2.2.1 gX6_hourBy_X6_councilsIn rfl rfl rfl (by decide +kernel) ⟨Nat.le_of_ble_eq_true rfl, Nat.le_of_ble_eq_true rfl⟩) rfl rfl (Nat.le_of_ble_eq_true rfl) dX6_hourBy_2 ?_
  refine pw_iload_n C dX6_hourBy_5 rfl 2 rfl ?_
  refine pw_ior C dX6_hourBy_6 ?_
  refine pw_istore_n (lv' := [(3, .int (r2 ||| a2)), (0, .ref (gad G 54)), (1, .int a1), (2, .int a2)]) C dX6_hourBy_7 rfl (by decide) rfl ?_
  refine pw_iconst (v := (0 : Int32)) C dX6_hourBy_8 (by decide) ?_
  refine pw_istore (lv' := [(4, .int (0 : Int32)), (3, .int (r2 ||| a2)), (0, .ref (gad G 54)), (1, .int a1), (2, .int a2)]) C dX6_hourBy_9 (by decide) rfl ?_
  have L11 : ∀ (k : pw_Mem → Option (pw_Mem)) (hk : ∀  (m1 : pw_Mem), k m1 = some μ' → pw_Go p l e ({ frames := 3, cells := 0, slots := 0, locals := 78 }) s m (([.ref (gad G 54), .int a1, .int a2] : List Value).toArray) below meth c (MQ below (va_Qv (fun (u : pw_Mem) => u = μ') (pw_B G) (gA G)) (([.ref (gad G 54), .int a1, .int a2] : List Value).toArray) s 0 0 (gA G)) G 5 46 [(0, .ref (gad G 54)), (1, .int a1)] [] m1) (n : Nat) (v4 : Int32) (m1 : pw_Mem), fl_X6_hourBy_11 k a1 (r2 ||| a2) n v4 m1 = some μ' → pw_Go p l e ({ frames := 3, cells := 0, slots := 0, locals := 78 }) s m (([.ref (gad G 54), .int a1, .int a2] : List Value).toArray) below meth c (MQ below (va_Qv (fun (u : pw_Mem) => u = μ') (pw_B G) (gA G)) (([.ref (gad G 54), .int a1, .int a2] : List Value).toArray) s 0 0 (gA G)) G 5 11 [(0, .ref (gad G 54)), (1, .int a1), (3, .int (r2 ||| a2)), (4, .int v4)] [] m1 := by
    intro k hk n
    induction n with
    | zero => intro v4 m1 h; exact nomatch (show (none : Option (pw_Mem)) = some _ from h)
    | succ n ih =>
      intro v4 m1 h
      rw [fl_X6_hourBy_11] at h
      refine pw_iload C dX6_hourBy_11 3 rfl ?_
      refine pw_aload_n C dX6_hourBy_13 rfl 0 rfl ?_
      refine pw_get (v := .ref (gad G 55)) C iX6 (by decide) (pw_sh_54 _) rfl 0 (by decide) k1 rfl dX6_hourBy_14 ?_
      refine pw_iload_n C dX6_hourBy_17 rfl 1 rfl ?_
      refine pw_iconst (v := (1 : Int32)) C dX6_hourBy_18 (by decide) ?_
      refine pw_iadd C dX6_hourBy_19 ?_
      obtain ⟨hi20, h⟩ := fn_ix_s h
      refine pw_iald C (by decide) (pw_sh_55 _) hi20 dX6_hourBy_20 ?_
      refine pw_icmp_ge (tgt := 46) C dX6_hourBy_21 (by decide) (fun c21 => ?_) (fun c21 => ?_)
      · have h := fn_pos c21 h
        refine pw_sub [0, 1] rfl ?_
        exact hk _ h
      · have h := fn_neg c21 h
        refine pw_iload_n C dX6_hourBy_24 rfl 2 rfl ?_
        refine pw_iload C dX6_hourBy_25 3 rfl ?_
        obtain ⟨r27, m27, hc27, h⟩ := fn_bi_s h
        refine pw_callSi (rest := []) C (ct_X6_has l C.2.2.2.2.2.2.2.2 hc27) (va_cwS 2 C.2.2.2.2.1 gX6_hourBy_X6_has rfl rfl rfl (by decide +kernel) ⟨Nat.le_of_ble_eq_true rfl, Nat.le_of_ble_eq_true rfl⟩) rfl rfl (Nat.le_of_ble_eq_true rfl) dX6_hourBy_27 ?_
        refine fn_jn0_s (fun m40 => pw_Go p l e ({ frames := 3, cells := 0, slots := 0, locals := 78 }) s m (([.ref (gad G 54), .int a1, .int a2] : List Value).toArray) below meth c (MQ below (va_Qv (fun (u : pw_Mem) => u = μ') (pw_B G) (gA G)) (([.ref (gad G 54), .int a1, .int a2] : List Value).toArray) s 0 0 (gA G)) G 5 40 [(0, .ref (gad G 54)), (1, .int a1), (3, .int (r2 ||| a2)), (4, .int v4)] [] m40) h (fun m40 h => ?_) (fun k40 hk40 h => ?_)
        · refine pw_iinc (v := (v4 + 1)) (lv' := [(4, .int (v4 + 1)), (0, .ref (gad G 54)), (1, .int a1), (3, .int (r2 ||| a2))]) C dX6_hourBy_40 (q := 3) rfl rfl (by decide) rfl ?_
          refine pw_goto (tgt := 11) C dX6_hourBy_43 (by decide) ?_
          refine pw_sub [1, 2, 3, 0] rfl ?_
          exact ih _ _ h
        · refine pw_if_ne (tgt := 40) C dX6_hourBy_30 (by decide) (fun c30 => ?_) (fun c30 => ?_)
          · have h := fn_pos c30 h
            exact hk40 _ h
          · have h := fn_neg c30 h
            refine pw_aload_n C dX6_hourBy_33 rfl 0 rfl ?_
            refine pw_iload_n C dX6_hourBy_34 rfl 1 rfl ?_
            refine pw_iload C dX6_hourBy_35 3 rfl ?_
            obtain ⟨m37, hc37, h⟩ := fn_bv_s h
            refine pw_callVv (rest := []) C (by decide) (pw_sh_54 _) rfl (ct_X6_passes l C.2.2.2.2.2.2.2.2 hc37) (cwV 2 C.2.2.2.2.1 gX6_hourBy_X6_passes rfl rfl rfl (by decide +kernel) ⟨Nat.le_of_ble_eq_true rfl, Nat.le_of_ble_eq_true rfl⟩) rfl rfl (Nat.le_of_ble_eq_true rfl) dX6_hourBy_37 ?_
            exact hk40 _ h
  refine pw_sub [2, 3, 1, 0] rfl ?_
  refine L11 _ (fun m46 h => ?_) _ _ _ h
  refine pw_aload_n C dX6_hourBy_46 rfl 0 rfl ?_
  refine pw_get (v := .ref (gad G 55)) C iX6 (by decide) (pw_sh_54 _) rfl 0 (by decide) k1 rfl dX6_hourBy_47 ?_
  refine pw_iload_n C dX6_hourBy_50 rfl 1 rfl ?_
  refine pw_bipush (v := (18 : Int32)) C dX6_hourBy_51 (by decide) ?_
  refine pw_iadd C dX6_hourBy_53 ?_
  refine pw_dup2 C dX6_hourBy_54 rfl rfl ?_
  obtain ⟨hi55, h⟩ := fn_ix_s h
  refine pw_iald C (by decide) (pw_sh_55 _) hi55 dX6_hourBy_55 ?_
  refine pw_iconst (v := (1 : Int32)) C dX6_hourBy_56 (by decide) ?_
  refine pw_iadd C dX6_hourBy_57 ?_
  obtain ⟨hi58, h⟩ := fn_ix_s h
  refine pw_iast C (by decide) pw_sh_55 hi58 dX6_hourBy_58 ?_
  exact pw_vret C h dX6_hourBy_59
set_option maxHeartbeats 4000000 in
set_option maxRecDepth 100000 in
theorem ct_X6_all (l : Launch) {G : pw_G} (hG : pw_Ok G) {a1 : Int32}  {μ μ' : pw_Mem} {r : Int32} (h : fn_X6_all a1 μ = some (r, μ')) : Met l yX6_all wsX6_all ({ frames := 0, cells := 0, slots := 0, locals := 0 }) (va_Pc [.ref (gad G 54), .int a1] (pw_Pre G μ)) (va_Qi (fun (r1 : Int32) (u : pw_Mem) => r1 = r ∧ u = μ') (pw_B G) (gA G)) 0 0 (gA G) := by
  refine pw_met (lv := [(0, .ref (gad G 54)), (1, .int a1)]) (own := RX6) (cc := cX6_all) (maxL := 2) (ret := some .int) hG rfl (by decide) rfl rfl (Nat.le_of_ble_eq_true rfl) ?_
  intro p e s m below meth c C
  have iX6 : ∀ w ∈ u_ws RX6 TX6 16, w ∈ wsX6_all := fun _ h => List.mem_cons_of_mem _ (List.mem_append_right _ (h))
  have k1 := C.2.2.2.2.1 (.fieldLink RX6 7 "PulpitRoadsModel" "w" "[I") (List.mem_cons_of_mem _ (List.mem_append_left _ (List.mem_of_getElem? (i := 0) rfl)))
  unfold fn_X6_all at h
  refine pw_iconst (v := (1 : Int32)) C dX6_all_0 (by decide) ?_
  refine pw_aload_n C dX6_all_1 rfl 0 rfl ?_
  refine pw_get (v := .ref (gad G 55)) C iX6 (by decide) (pw_sh_54 _) rfl 0 (by decide) k1 rfl dX6_all_2 ?_
  refine pw_iload_n C dX6_all_5 rfl 1 rfl ?_
  refine pw_iconst (v := (2 : Int32)) C dX6_all_6 (by decide) ?_
  refine pw_iadd C dX6_all_7 ?_
  obtain ⟨hi8, h⟩ := fn_ix_s h
  refine pw_iald C (by decide) (pw_sh_55 _) hi8 dX6_all_8 ?_
  refine pw_ishl C dX6_all_9 ?_
  refine pw_iconst (v := (1 : Int32)) C dX6_all_10 (by decide) ?_
  refine pw_isub C dX6_all_11 ?_
  exact pw_iret C h dX6_all_12
set_option maxHeartbeats 4000000 in
set_option maxRecDepth 100000 in
theorem ct_X6_wholeOnes (l : Launch) {G : pw_G} (hG : pw_Ok G) {a1 : Int32}  {μ μ' : pw_Mem} {r : Int32} (h : fn_X6_wholeOnes a1 μ = some (r, μ')) : Met l yX6_wholeOnes wsX6_wholeOnes ({ frames := 1, cells := 0, slots := 0, locals := 21 }) (va_Pc [.ref (gad G 54), .int a1] (pw_Pre G μ)) (va_Qi (fun (r1 : Int32) (u : pw_Mem) => r1 = r ∧ u = μ') (pw_B G) (gA G)) 0 0 (gA G) := by
  refine pw_met (lv := [(0, .ref (gad G 54)), (1, .int a1)]) (own := RX6) (cc := cX6_wholeOnes) (maxL := 4) (ret := some .int) hG rfl (by decide) rfl rfl (Nat.le_of_ble_eq_true rfl) ?_
  intro p e s m below meth c C
  have iX6 : ∀ w ∈ u_ws RX6 TX6 16, w ∈ wsX6_wholeOnes := fun _ h => List.mem_cons_of_mem _ (List.mem_append_right _ (h))
  have k1 := C.2.2.2.2.1 (.fieldLink RX6 7 "PulpitRoadsModel" "w" "[I") (List.mem_cons_of_mem _ (List.mem_append_left _ (List.mem_of_getElem? (i := 0) rfl)))
  unfold fn_X6_wholeOnes at h
  refine pw_iconst (v := (0 : Int32)) C dX6_wholeOnes_0 (by decide) ?_
  refine pw_istore_n (lv' := [(2, .int (0 : Int32)), (0, .ref (gad G 54)), (1, .int a1)]) C dX6_wholeOnes_1 rfl (by decide) rfl ?_
  refine pw_iconst (v := (0 : Int32)) C dX6_wholeOnes_2 (by decide) ?_
  refine pw_istore_n (lv' := [(3, .int (0 : Int32)), (2, .int (0 : Int32)), (0, .ref (gad G 54)), (1, .int a1)]) C dX6_wholeOnes_3 rfl (by decide) rfl ?_
  have L4 : ∀ (k : Int32 → pw_Mem → Option (Int32 × pw_Mem)) (hk : ∀ (v2 : Int32) (m1 : pw_Mem), k v2 m1 = some (r, μ') → pw_Go p l e ({ frames := 1, cells := 0, slots := 0, locals := 21 }) s m (([.ref (gad G 54), .int a1] : List Value).toArray) below meth c (MQ below (va_Qi (fun (r1 : Int32) (u : pw_Mem) => r1 = r ∧ u = μ') (pw_B G) (gA G)) (([.ref (gad G 54), .int a1] : List Value).toArray) s 0 0 (gA G)) G 4 51 [(2, .int v2)] [] m1) (n : Nat) (v2 : Int32) (v3 : Int32) (m1 : pw_Mem), fl_X6_wholeOnes_4 k a1 n v2 v3 m1 = some (r, μ') → pw_Go p l e ({ frames := 1, cells := 0, slots := 0, locals := 21 }) s m (([.ref (gad G 54), .int a1] : List Value).toArray) below meth c (MQ below (va_Qi (fun (r1 : Int32) (u : pw_Mem) => r1 = r ∧ u = μ') (pw_B G) (gA G)) (([.ref (gad G 54), .int a1] : List Value).toArray) s 0 0 (gA G)) G 4 4 [(0, .ref (gad G 54)), (1, .int a1), (2, .int v2), (3, .int v3)] [] m1 := by
    intro k hk n
    induction n with
    | zero => intro v2 v3 m1 h; exact nomatch (show (none : Option (Int32 × pw_Mem)) = some _ from h)
    | succ n ih =>
      intro v2 v3 m1 h
      rw [fl_X6_wholeOnes_4] at h
      refine pw_iload_n C dX6_wholeOnes_4 rfl 3 rfl ?_
      refine pw_aload_n C dX6_wholeOnes_5 rfl 0 rfl ?_
      refine pw_get (v := .ref (gad G 55)) C iX6 (by decide) (pw_sh_54 _) rfl 0 (by decide) k1 rfl dX6_wholeOnes_6 ?_
      refine pw_iload_n C dX6_wholeOnes_9 rfl 1 rfl ?_
      refine pw_iconst (v := (0 : Int32)) C dX6_wholeOnes_10 (by decide) ?_
      refine pw_iadd C dX6_wholeOnes_11 ?_
      obtain ⟨hi12, h⟩ := fn_ix_s h
      refine pw_iald C (by decide) (pw_sh_55 _) hi12 dX6_wholeOnes_12 ?_
      refine pw_icmp_ge (tgt := 51) C dX6_wholeOnes_13 (by decide) (fun c13 => ?_) (fun c13 => ?_)
      · have h := fn_pos c13 h
        refine pw_sub [2] rfl ?_
        exact hk _ _ h
      · have h := fn_neg c13 h
        refine pw_iload_n C dX6_wholeOnes_16 rfl 2 rfl ?_
        refine pw_aload_n C dX6_wholeOnes_17 rfl 0 rfl ?_
        refine pw_get (v := .ref (gad G 55)) C iX6 (by decide) (pw_sh_54 _) rfl 0 (by decide) k1 rfl dX6_wholeOnes_18 ?_
        refine pw_iload_n C dX6_wholeOnes_21 rfl 1 rfl ?_
        refine pw_bipush (v := (29 : Int32)) C dX6_wholeOnes_22 (by decide) ?_
        refine pw_iadd C dX6_wholeOnes_24 ?_
        refine pw_iload_n C dX6_wholeOnes_25 rfl 3 rfl ?_
        refine pw_iadd C dX6_wholeOnes_26 ?_
        obtain ⟨hi27, h⟩ := fn_ix_s h
        refine pw_iald C (by decide) (pw_sh_55 _) hi27 dX6_wholeOnes_27 ?_
        refine pw_aload_n C dX6_wholeOnes_28 rfl 0 rfl ?_
        refine pw_iload_n C dX6_wholeOnes_29 rfl 1 rfl ?_
        obtain ⟨r30, m30, hc30, h⟩ := fn_bi_s h
        refine pw_callVi (rest := [.int (m1 55 (((a1 + (29 : Int32)) + v3)).toNatClampNeg), .int v2]) C (by decide) (pw_sh_54 _) rfl (ct_X6_all l C.2.2.2.2.2.2.2.2 hc30) (cwV 1 C.2.2.2.2.1 gX6_wholeOnes_X6_all rfl rfl rfl (by decide +kernel) ⟨Nat.le_of_ble_eq_true rfl, Nat.le_of_ble_eq_true rfl⟩) rfl rfl (Nat.le_of_ble_eq_true rfl) dX6_wholeOnes_30 ?_
        refine fn_jn1_s (fun x43_0 m43 => pw_Go p l e ({ frames := 1, cells := 0, slots := 0, locals := 21 }) s m (([.ref (gad G 54), .int a1] : List Value).toArray) below meth c (MQ below (va_Qi (fun (r1 : Int32) (u : pw_Mem) => r1 = r ∧ u = μ') (pw_B G) (gA G)) (([.ref (gad G 54), .int a1] : List Value).toArray) s 0 0 (gA G)) G 4 43 [(0, .ref (gad G 54)), (1, .int a1), (3, .int v3)] [.int x43_0, .int v2] m43) h (fun x43_0 m43 h => ?_) (fun k43 hk43 h => ?_)
        · refine pw_ior C dX6_wholeOnes_43 ?_
          refine pw_istore_n (lv' := [(2, .int (v2 ||| x43_0)), (0, .ref (gad G 54)), (1, .int a1), (3, .int v3)]) C dX6_wholeOnes_44 rfl (by decide) rfl ?_
          refine pw_iinc (v := (v3 + 1)) (lv' := [(3, .int (v3 + 1)), (2, .int (v2 ||| x43_0)), (0, .ref (gad G 54)), (1, .int a1)]) C dX6_wholeOnes_45 (q := 3) rfl rfl (by decide) rfl ?_
          refine pw_goto (tgt := 4) C dX6_wholeOnes_48 (by decide) ?_
          refine pw_sub [2, 3, 1, 0] rfl ?_
          exact ih _ _ _ h
        · refine pw_icmp_ne (tgt := 42) C dX6_wholeOnes_33 (by decide) (fun c33 => ?_) (fun c33 => ?_)
          · have h := fn_pos c33 h
            refine pw_iconst (v := (0 : Int32)) C dX6_wholeOnes_42 (by decide) ?_
            refine pw_sub [0, 1, 3] rfl ?_
            exact hk43 _ _ h
          · have h := fn_neg c33 h
            refine pw_iconst (v := (1 : Int32)) C dX6_wholeOnes_36 (by decide) ?_
            refine pw_iload_n C dX6_wholeOnes_37 rfl 3 rfl ?_
            refine pw_ishl C dX6_wholeOnes_38 ?_
            refine pw_goto (tgt := 43) C dX6_wholeOnes_39 (by decide) ?_
            refine pw_sub [0, 1, 3] rfl ?_
            exact hk43 _ _ h
  refine pw_sub [2, 3, 1, 0] rfl ?_
  refine L4 _ (fun y4_2 m51 h => ?_) _ _ _ _ h
  refine pw_iload_n C dX6_wholeOnes_51 rfl 0 rfl ?_
  exact pw_iret C h dX6_wholeOnes_52
set_option maxHeartbeats 4000000 in
set_option maxRecDepth 100000 in
theorem ct_X6_heardWords (l : Launch) {G : pw_G} (hG : pw_Ok G) {a1 : Int32}  {μ μ' : pw_Mem} {r : Int32} (h : fn_X6_heardWords a1 μ = some (r, μ')) : Met l yX6_heardWords wsX6_heardWords ({ frames := 1, cells := 0, slots := 0, locals := 22 }) (va_Pc [.ref (gad G 54), .int a1] (pw_Pre G μ)) (va_Qi (fun (r1 : Int32) (u : pw_Mem) => r1 = r ∧ u = μ') (pw_B G) (gA G)) 0 0 (gA G) := by
  refine pw_met (lv := [(0, .ref (gad G 54)), (1, .int a1)]) (own := RX6) (cc := cX6_heardWords) (maxL := 4) (ret := some .int) hG rfl (by decide) rfl rfl (Nat.le_of_ble_eq_true rfl) ?_
  intro p e s m below meth c C
  have iX6 : ∀ w ∈ u_ws RX6 TX6 16, w ∈ wsX6_heardWords := fun _ h => List.mem_cons_of_mem _ (List.mem_append_right _ (h))
  have k1 := C.2.2.2.2.1 (.fieldLink RX6 7 "PulpitRoadsModel" "w" "[I") (List.mem_cons_of_mem _ (List.mem_append_left _ (List.mem_of_getElem? (i := 0) rfl)))
  unfold fn_X6_heardWords at h
  refine pw_iconst (v := (0 : Int32)) C dX6_heardWords_0 (by decide) ?_
  refine pw_istore_n (lv' := [(2, .int (0 : Int32)), (0, .ref (gad G 54)), (1, .int a1)]) C dX6_heardWords_1 rfl (by decide) rfl ?_
  refine pw_iconst (v := (0 : Int32)) C dX6_heardWords_2 (by decide) ?_
  refine pw_istore_n (lv' := [(3, .int (0 : Int32)), (2, .int (0 : Int32)), (0, .ref (gad G 54)), (1, .int a1)]) C dX6_heardWords_3 rfl (by decide) rfl ?_
  have L4 : ∀ (k : Int32 → pw_Mem → Option (Int32 × pw_Mem)) (hk : ∀ (v2 : Int32) (m1 : pw_Mem), k v2 m1 = some (r, μ') → pw_Go p l e ({ frames := 1, cells := 0, slots := 0, locals := 22 }) s m (([.ref (gad G 54), .int a1] : List Value).toArray) below meth c (MQ below (va_Qi (fun (r1 : Int32) (u : pw_Mem) => r1 = r ∧ u = μ') (pw_B G) (gA G)) (([.ref (gad G 54), .int a1] : List Value).toArray) s 0 0 (gA G)) G 4 39 [(2, .int v2)] [] m1) (n : Nat) (v2 : Int32) (v3 : Int32) (m1 : pw_Mem), fl_X6_heardWords_4 k a1 n v2 v3 m1 = some (r, μ') → pw_Go p l e ({ frames := 1, cells := 0, slots := 0, locals := 22 }) s m (([.ref (gad G 54), .int a1] : List Value).toArray) below meth c (MQ below (va_Qi (fun (r1 : Int32) (u : pw_Mem) => r1 = r ∧ u = μ') (pw_B G) (gA G)) (([.ref (gad G 54), .int a1] : List Value).toArray) s 0 0 (gA G)) G 4 4 [(0, .ref (gad G 54)), (1, .int a1), (2, .int v2), (3, .int v3)] [] m1 := by
    intro k hk n
    induction n with
    | zero => intro v2 v3 m1 h; exact nomatch (show (none : Option (Int32 × pw_Mem)) = some _ from h)
    | succ n ih =>
      intro v2 v3 m1 h
      rw [fl_X6_heardWords_4] at h
      refine pw_iload_n C dX6_heardWords_4 rfl 3 rfl ?_
      refine pw_aload_n C dX6_heardWords_5 rfl 0 rfl ?_
      refine pw_get (v := .ref (gad G 55)) C iX6 (by decide) (pw_sh_54 _) rfl 0 (by decide) k1 rfl dX6_heardWords_6 ?_
      refine pw_iload_n C dX6_heardWords_9 rfl 1 rfl ?_
      refine pw_iconst (v := (0 : Int32)) C dX6_heardWords_10 (by decide) ?_
      refine pw_iadd C dX6_heardWords_11 ?_
      obtain ⟨hi12, h⟩ := fn_ix_s h
      refine pw_iald C (by decide) (pw_sh_55 _) hi12 dX6_heardWords_12 ?_
      refine pw_icmp_ge (tgt := 39) C dX6_heardWords_13 (by decide) (fun c13 => ?_) (fun c13 => ?_)
      · have h := fn_pos c13 h
        refine pw_sub [2] rfl ?_
        exact hk _ _ h
      · have h := fn_neg c13 h
        refine pw_iload_n C dX6_heardWords_16 rfl 2 rfl ?_
        refine pw_aload_n C dX6_heardWords_17 rfl 0 rfl ?_
        refine pw_get (v := .ref (gad G 55)) C iX6 (by decide) (pw_sh_54 _) rfl 0 (by decide) k1 rfl dX6_heardWords_18 ?_
        refine pw_iload_n C dX6_heardWords_21 rfl 1 rfl ?_
        refine pw_bipush (v := (29 : Int32)) C dX6_heardWords_22 (by decide) ?_
        refine pw_iadd C dX6_heardWords_24 ?_
        refine pw_iload_n C dX6_heardWords_25 rfl 3 rfl ?_
        refine pw_iadd C dX6_heardWords_26 ?_
        obtain ⟨hi27, h⟩ := fn_ix_s h
        refine pw_iald C (by decide) (pw_sh_55 _) hi27 dX6_heardWords_27 ?_
        obtain ⟨r28, m28, hc28, h⟩ := fn_bi_s h
        refine pw_callSi (rest := [.int v2]) C (ct_X6_ones l C.2.2.2.2.2.2.2.2 hc28) (va_cwS 1 C.2.2.2.2.1 gX6_heardWords_X6_ones rfl rfl rfl (by decide +kernel) ⟨Nat.le_of_ble_eq_true rfl, Nat.le_of_ble_eq_true rfl⟩) rfl rfl (Nat.le_of_ble_eq_true rfl) dX6_heardWords_28 ?_
        refine pw_iadd C dX6_heardWords_31 ?_
        refine pw_istore_n (lv' := [(2, .int (v2 + r28)), (0, .ref (gad G 54)), (1, .int a1), (3, .int v3)]) C dX6_heardWords_32 rfl (by decide) rfl ?_
        refine pw_iinc (v := (v3 + 1)) (lv' := [(3, .int (v3 + 1)), (2, .int (v2 + r28)), (0, .ref (gad G 54)), (1, .int a1)]) C dX6_heardWords_33 (q := 3) rfl rfl (by decide) rfl ?_
        refine pw_goto (tgt := 4) C dX6_heardWords_36 (by decide) ?_
        refine pw_sub [2, 3, 1, 0] rfl ?_
        exact ih _ _ _ h
  refine pw_sub [2, 3, 1, 0] rfl ?_
  refine L4 _ (fun y4_2 m39 h => ?_) _ _ _ _ h
  refine pw_iload_n C dX6_heardWords_39 rfl 0 rfl ?_
  exact pw_iret C h dX6_heardWords_40
set_option maxHeartbeats 4000000 in
set_option maxRecDepth 100000 in
theorem ct_X6_minds (l : Launch) {G : pw_G} (hG : pw_Ok G)   {μ μ' : pw_Mem} (h : fn_X6_minds μ = some μ') : Met l yX6_minds wsX6_minds ({ frames := 1, cells := 0, slots := 0, locals := 24 }) (va_Pc [.ref (gad G 54)] (pw_Pre G μ)) (va_Qv (fun (u : pw_Mem) => u = μ') (pw_B G) (gA G)) 0 0 (gA G) := by
  refine pw_met (lv := [(0, .ref (gad G 54))]) (own := RX6) (cc := cX6_minds) (maxL := 2) (ret := none) hG rfl (by decide) rfl rfl (Nat.le_of_ble_eq_true rfl) ?_
  intro p e s m below meth c C
  have iX6 : ∀ w ∈ u_ws RX6 TX6 16, w ∈ wsX6_minds := fun _ h => List.mem_cons_of_mem _ (List.mem_append_right _ (h))
  have k1 := C.2.2.2.2.1 (.fieldLink RX6 117 "PulpitRoadsModel" "undoes" "I") (List.mem_cons_of_mem _ (List.mem_append_left _ (List.mem_of_getElem? (i := 0) rfl)))
  have k2 := C.2.2.2.2.1 (.fieldLink RX6 7 "PulpitRoadsModel" "w" "[I") (List.mem_cons_of_mem _ (List.mem_append_left _ (List.mem_of_getElem? (i := 1) rfl)))
  unfold fn_X6_minds at h
  refine pw_aload_n C dX6_minds_0 rfl 0 rfl ?_
  refine pw_get (v := .int (μ 54 1)) C iX6 (by decide) (pw_sh_54 _) rfl 1 (by decide) k1 rfl dX6_minds_1 ?_
  refine pw_bipush (v := (24 : Int32)) C dX6_minds_4 (by decide) ?_
  refine fn_jn0_s (fun m57 => pw_Go p l e ({ frames := 1, cells := 0, slots := 0, locals := 24 }) s m (([.ref (gad G 54)] : List Value).toArray) below meth c (MQ below (va_Qv (fun (u : pw_Mem) => u = μ') (pw_B G) (gA G)) (([.ref (gad G 54)] : List Value).toArray) s 0 0 (gA G)) G 2 57 [(0, .ref (gad G 54))] [] m57) h (fun m57 h => ?_) (fun k57 hk57 h => ?_)
  · refine pw_aload_n C dX6_minds_57 rfl 0 rfl ?_
    refine pw_bipush (v := (18 : Int32)) C dX6_minds_58 (by decide) ?_
    refine pw_sipush (v := (190 : Int32)) C dX6_minds_60 (by decide) ?_
    refine pw_bipush (v := (20 : Int32)) C dX6_minds_63 (by decide) ?_
    refine pw_aload_n C dX6_minds_65 rfl 0 rfl ?_
    refine pw_get (v := .int (m57 54 1)) C iX6 (by decide) (pw_sh_54 _) rfl 1 (by decide) k1 rfl dX6_minds_66 ?_
    refine pw_imul C dX6_minds_69 ?_
    refine pw_iadd C dX6_minds_70 ?_
    refine pw_bipush (v := (20 : Int32)) C dX6_minds_71 (by decide) ?_
    obtain ⟨m73, hc73, h⟩ := fn_bv_s h
    refine pw_callVv (rest := []) C (by decide) (pw_sh_54 _) rfl (ct_X6_copyOf l C.2.2.2.2.2.2.2.2 hc73) (cwV 3 C.2.2.2.2.1 gX6_minds_X6_copyOf rfl rfl rfl (by decide +kernel) ⟨Nat.le_of_ble_eq_true rfl, Nat.le_of_ble_eq_true rfl⟩) rfl rfl (Nat.le_of_ble_eq_true rfl) dX6_minds_73 ?_
    refine pw_aload_n C dX6_minds_76 rfl 0 rfl ?_
    refine pw_dup C dX6_minds_77 rfl ?_
    refine pw_get (v := .int (m73 54 1)) C iX6 (by decide) (pw_sh_54 _) rfl 1 (by decide) k1 rfl dX6_minds_78 ?_
    refine pw_iconst (v := (1 : Int32)) C dX6_minds_81 (by decide) ?_
    refine pw_iadd C dX6_minds_82 ?_
    refine pw_put (host := "PulpitRoads") (ty := .int) C iX6 tyX6 tyX6_ok nmX6 (by decide) (pw_sh_54 _) rfl 1 (by decide) (pw_sh_54 _) k1 rfl (by decide +kernel) (fn_int _) (Nat.le_of_ble_eq_true rfl) dX6_minds_83 ?_
    exact pw_vret C h dX6_minds_86
  · refine pw_icmp_ne (tgt := 57) C dX6_minds_6 (by decide) (fun c6 => ?_) (fun c6 => ?_)
    · have h := fn_pos c6 h
      exact hk57 _ h
    · have h := fn_neg c6 h
      refine pw_iconst (v := (0 : Int32)) C dX6_minds_9 (by decide) ?_
      refine pw_istore_n (lv' := [(1, .int (0 : Int32)), (0, .ref (gad G 54))]) C dX6_minds_10 rfl (by decide) rfl ?_
      have L11 : ∀ (k : pw_Mem → Option (pw_Mem)) (hk : ∀  (m1 : pw_Mem), k m1 = some μ' → pw_Go p l e ({ frames := 1, cells := 0, slots := 0, locals := 24 }) s m (([.ref (gad G 54)] : List Value).toArray) below meth c (MQ below (va_Qv (fun (u : pw_Mem) => u = μ') (pw_B G) (gA G)) (([.ref (gad G 54)] : List Value).toArray) s 0 0 (gA G)) G 2 47 [(0, .ref (gad G 54))] [] m1) (n : Nat) (v1 : Int32) (m1 : pw_Mem), fl_X6_minds_11 k  n v1 m1 = some μ' → pw_Go p l e ({ frames := 1, cells := 0, slots := 0, locals := 24 }) s m (([.ref (gad G 54)] : List Value).toArray) below meth c (MQ below (va_Qv (fun (u : pw_Mem) => u = μ') (pw_B G) (gA G)) (([.ref (gad G 54)] : List Value).toArray) s 0 0 (gA G)) G 2 11 [(0, .ref (gad G 54)), (1, .int v1)] [] m1 := by
        intro k hk n
        induction n with
        | zero => intro v1 m1 h; exact nomatch (show (none : Option (pw_Mem)) = some _ from h)
        | succ n ih =>
          intro v1 m1 h
          rw [fl_X6_minds_11] at h
          refine pw_iload_n C dX6_minds_11 rfl 1 rfl ?_
          refine pw_sipush (v := (460 : Int32)) C dX6_minds_12 (by decide) ?_
          refine pw_icmp_ge (tgt := 47) C dX6_minds_15 (by decide) (fun c15 => ?_) (fun c15 => ?_)
          · have h := fn_pos c15 h
            refine pw_sub [0] rfl ?_
            exact hk _ h
          · have h := fn_neg c15 h
            refine pw_aload_n C dX6_minds_18 rfl 0 rfl ?_
            refine pw_get (v := .ref (gad G 55)) C iX6 (by decide) (pw_sh_54 _) rfl 0 (by decide) k2 rfl dX6_minds_19 ?_
            refine pw_sipush (v := (190 : Int32)) C dX6_minds_22 (by decide) ?_
            refine pw_iload_n C dX6_minds_25 rfl 1 rfl ?_
            refine pw_iadd C dX6_minds_26 ?_
            refine pw_aload_n C dX6_minds_27 rfl 0 rfl ?_
            refine pw_get (v := .ref (gad G 55)) C iX6 (by decide) (pw_sh_54 _) rfl 0 (by decide) k2 rfl dX6_minds_28 ?_
            refine pw_sipush (v := (190 : Int32)) C dX6_minds_31 (by decide) ?_
            refine pw_iload_n C dX6_minds_34 rfl 1 rfl ?_
            refine pw_iadd C dX6_minds_35 ?_
            refine pw_bipush (v := (20 : Int32)) C dX6_minds_36 (by decide) ?_
            refine pw_iadd C dX6_minds_38 ?_
            obtain ⟨hi39, h⟩ := fn_ix_s h
            refine pw_iald C (by decide) (pw_sh_55 _) hi39 dX6_minds_39 ?_
            obtain ⟨hi40, h⟩ := fn_ix_s h
            refine pw_iast C (by decide) pw_sh_55 hi40 dX6_minds_40 ?_
            refine pw_iinc (v := (v1 + 1)) (lv' := [(1, .int (v1 + 1)), (0, .ref (gad G 54))]) C dX6_minds_41 (q := 1) rfl rfl (by decide) rfl ?_
            refine pw_goto (tgt := 11) C dX6_minds_44 (by decide) ?_
            refine pw_sub [1, 0] rfl ?_
            exact ih _ _ h
      refine pw_sub [1, 0] rfl ?_
      refine L11 _ (fun m47 h => ?_) _ _ _ h
      refine pw_aload_n C dX6_minds_47 rfl 0 rfl ?_
      refine pw_dup C dX6_minds_48 rfl ?_
      refine pw_get (v := .int (m47 54 1)) C iX6 (by decide) (pw_sh_54 _) rfl 1 (by decide) k1 rfl dX6_minds_49 ?_
      refine pw_iconst (v := (1 : Int32)) C dX6_minds_52 (by decide) ?_
      refine pw_isub C dX6_minds_53 ?_
      refine pw_put (host := "PulpitRoads") (ty := .int) C iX6 tyX6 tyX6_ok nmX6 (by decide) (pw_sh_54 _) rfl 1 (by decide) (pw_sh_54 _) k1 rfl (by decide +kernel) (fn_int _) (Nat.le_of_ble_eq_true rfl) dX6_minds_54 ?_
      exact hk57 _ h
set_option maxHeartbeats 4000000 in
set_option maxRecDepth 100000 in
theorem ct_X6_hours (l : Launch) {G : pw_G} (hG : pw_Ok G) {a1 : Int32}  {μ μ' : pw_Mem} {r : Int32} (h : fn_X6_hours a1 μ = some (r, μ')) : Met l yX6_hours wsX6_hours ({ frames := 4, cells := 0, slots := 0, locals := 102 }) (va_Pc [.ref (gad G 54), .int a1] (pw_Pre G μ)) (va_Qi (fun (r1 : Int32) (u : pw_Mem) => r1 = r ∧ u = μ') (pw_B G) (gA G)) 0 0 (gA G) := by
  refine pw_met (lv := [(0, .ref (gad G 54)), (1, .int a1)]) (own := RX6) (cc := cX6_hours) (maxL := 3) (ret := some .int) hG rfl (by decide) rfl rfl (Nat.le_of_ble_eq_true rfl) ?_
  intro p e s m below meth c C
  have iX6 : ∀ w ∈ u_ws RX6 TX6 16, w ∈ wsX6_hours := fun _ h => List.mem_cons_of_mem _ (List.mem_append_right _ (h))
  have k1 := C.2.2.2.2.1 (.constant RX6 146 (-1000002)) (List.mem_cons_of_mem _ (List.mem_append_left _ (List.mem_append_left _ (List.mem_of_getElem? (i := 0) rfl))))
  have k2 := C.2.2.2.2.1 (.constantLong RX6 147 (24)) (List.mem_cons_of_mem _ (List.mem_append_left _ (List.mem_append_left _ (List.mem_of_getElem? (i := 1) rfl))))
  have k3 := C.2.2.2.2.1 (.constant RX6 51 (-1000001)) (List.mem_cons_of_mem _ (List.mem_append_left _ (List.mem_append_left _ (List.mem_of_getElem? (i := 2) rfl))))
  have k4 := C.2.2.2.2.1 (.fieldLink RX6 7 "PulpitRoadsModel" "w" "[I") (List.mem_cons_of_mem _ (List.mem_append_left _ (List.mem_append_left _ (List.mem_of_getElem? (i := 3) rfl))))
  have k5 := C.2.2.2.2.1 (.constant RX6 65 (-1000003)) (List.mem_cons_of_mem _ (List.mem_append_left _ (List.mem_append_left _ (List.mem_of_getElem? (i := 4) rfl))))
  unfold fn_X6_hours at h
  refine pw_aload_n C dX6_hours_0 rfl 0 rfl ?_
  obtain ⟨r1, m1, hc1, h⟩ := fn_bi_s h
  refine pw_callVi (rest := []) C (by decide) (pw_sh_54 _) rfl (ct_X6_isRoad l C.2.2.2.2.2.2.2.2 hc1) (cwV 0 C.2.2.2.2.1 gX6_hours_X6_isRoad rfl rfl rfl (by decide +kernel) ⟨Nat.le_of_ble_eq_true rfl, Nat.le_of_ble_eq_true rfl⟩) rfl rfl (Nat.le_of_ble_eq_true rfl) dX6_hours_1 ?_
  refine pw_if_ne (tgt := 10) C dX6_hours_4 (by decide) (fun c4 => ?_) (fun c4 => ?_)
  · have h := fn_pos c4 h
    refine pw_iload_n C dX6_hours_10 rfl 1 rfl ?_
    refine pw_i2l C dX6_hours_11 ?_
    refine pw_lconst (v := (1 : Int64)) C dX6_hours_12 (by decide) ?_
    refine pw_ldc2 C k2 dX6_hours_13 ?_
    obtain ⟨r16, m16, hc16, h⟩ := fn_bi_s h
    refine pw_callSi (rest := []) C (ct_X6_in l C.2.2.2.2.2.2.2.2 hc16) (va_cwS 3 C.2.2.2.2.1 gX6_hours_X6_in rfl rfl rfl (by decide +kernel) ⟨Nat.le_of_ble_eq_true rfl, Nat.le_of_ble_eq_true rfl⟩) rfl rfl (Nat.le_of_ble_eq_true rfl) dX6_hours_16 ?_
    refine pw_if_ne (tgt := 25) C dX6_hours_19 (by decide) (fun c19 => ?_) (fun c19 => ?_)
    · have h := fn_pos c19 h
      refine pw_aload_n C dX6_hours_25 rfl 0 rfl ?_
      refine pw_get (v := .ref (gad G 55)) C iX6 (by decide) (pw_sh_54 _) rfl 0 (by decide) k4 rfl dX6_hours_26 ?_
      refine pw_bipush (v := (18 : Int32)) C dX6_hours_29 (by decide) ?_
      obtain ⟨hi31, h⟩ := fn_ix_s h
      refine pw_iald C (by decide) (pw_sh_55 _) hi31 dX6_hours_31 ?_
      refine pw_iload_n C dX6_hours_32 rfl 1 rfl ?_
      refine pw_iadd C dX6_hours_33 ?_
      refine pw_sipush (v := (9999 : Int32)) C dX6_hours_34 (by decide) ?_
      refine pw_icmp_le (tgt := 43) C dX6_hours_37 (by decide) (fun c37 => ?_) (fun c37 => ?_)
      · have h := fn_pos c37 h
        refine pw_iconst (v := (0 : Int32)) C dX6_hours_43 (by decide) ?_
        refine pw_istore_n (lv' := [(2, .int (0 : Int32)), (0, .ref (gad G 54)), (1, .int a1)]) C dX6_hours_44 rfl (by decide) rfl ?_
        have L45 : ∀ (k : pw_Mem → Option (Int32 × pw_Mem)) (hk : ∀  (m1 : pw_Mem), k m1 = some (r, μ') → pw_Go p l e ({ frames := 4, cells := 0, slots := 0, locals := 102 }) s m (([.ref (gad G 54), .int a1] : List Value).toArray) below meth c (MQ below (va_Qi (fun (r1 : Int32) (u : pw_Mem) => r1 = r ∧ u = μ') (pw_B G) (gA G)) (([.ref (gad G 54), .int a1] : List Value).toArray) s 0 0 (gA G)) G 3 66 [(0, .ref (gad G 54))] [] m1) (n : Nat) (v2 : Int32) (m1 : pw_Mem), fl_X6_hours_45 k a1 n v2 m1 = some (r, μ') → pw_Go p l e ({ frames := 4, cells := 0, slots := 0, locals := 102 }) s m (([.ref (gad G 54), .int a1] : List Value).toArray) below meth c (MQ below (va_Qi (fun (r1 : Int32) (u : pw_Mem) => r1 = r ∧ u = μ') (pw_B G) (gA G)) (([.ref (gad G 54), .int a1] : List Value).toArray) s 0 0 (gA G)) G 3 45 [(0, .ref (gad G 54)), (1, .int a1), (2, .int v2)] [] m1 := by
          intro k hk n
          induction n with
          | zero => intro v2 m1 h; exact nomatch (show (none : Option (Int32 × pw_Mem)) = some _ from h)
          | succ n ih =>
            intro v2 m1 h
            rw [fl_X6_hours_45] at h
            refine pw_iload_n C dX6_hours_45 rfl 2 rfl ?_
            refine pw_iload_n C dX6_hours_46 rfl 1 rfl ?_
            refine pw_icmp_ge (tgt := 66) C dX6_hours_47 (by decide) (fun c47 => ?_) (fun c47 => ?_)
            · have h := fn_pos c47 h
              refine pw_sub [0] rfl ?_
              exact hk _ h
            · have h := fn_neg c47 h
              refine pw_aload_n C dX6_hours_50 rfl 0 rfl ?_
              obtain ⟨m51, hc51, h⟩ := fn_bv_s h
              refine pw_callVv (rest := []) C (by decide) (pw_sh_54 _) rfl (ct_X6_minds l C.2.2.2.2.2.2.2.2 hc51) (cwV 0 C.2.2.2.2.1 gX6_hours_X6_minds rfl rfl rfl (by decide +kernel) ⟨Nat.le_of_ble_eq_true rfl, Nat.le_of_ble_eq_true rfl⟩) rfl rfl (Nat.le_of_ble_eq_true rfl) dX6_hours_51 ?_
              refine pw_aload_n C dX6_hours_54 rfl 0 rfl ?_
              refine pw_iconst (v := (0 : Int32)) C dX6_hours_55 (by decide) ?_
              refine pw_iconst (v := (0 : Int32)) C dX6_hours_56 (by decide) ?_
              obtain ⟨m57, hc57, h⟩ := fn_bv_s h
              refine pw_callVv (rest := []) C (by decide) (pw_sh_54 _) rfl (ct_X6_hourBy l C.2.2.2.2.2.2.2.2 hc57) (cwV 2 C.2.2.2.2.1 gX6_hours_X6_hourBy rfl rfl rfl (by decide +kernel) ⟨Nat.le_of_ble_eq_true rfl, Nat.le_of_ble_eq_true rfl⟩) rfl rfl (Nat.le_of_ble_eq_true rfl) dX6_hours_57 ?_
              refine pw_iinc (v := (v2 + 1)) (lv' := [(2, .int (v2 + 1)), (0, .ref (gad G 54)), (1, .int a1)]) C dX6_hours_60 (q := 2) rfl rfl (by decide) rfl ?_
              refine pw_goto (tgt := 45) C dX6_hours_63 (by decide) ?_
              refine pw_sub [1, 2, 0] rfl ?_
              exact ih _ _ h
        refine pw_sub [1, 2, 0] rfl ?_
        refine L45 _ (fun m66 h => ?_) _ _ _ h
        refine pw_aload_n C dX6_hours_66 rfl 0 rfl ?_
        refine pw_iconst (v := (0 : Int32)) C dX6_hours_67 (by decide) ?_
        obtain ⟨r68, m68, hc68, h⟩ := fn_bi_s h
        refine pw_callVi (rest := []) C (by decide) (pw_sh_54 _) rfl (ct_X6_wholeOnes l C.2.2.2.2.2.2.2.2 hc68) (cwV 1 C.2.2.2.2.1 gX6_hours_X6_wholeOnes rfl rfl rfl (by decide +kernel) ⟨Nat.le_of_ble_eq_true rfl, Nat.le_of_ble_eq_true rfl⟩) rfl rfl (Nat.le_of_ble_eq_true rfl) dX6_hours_68 ?_
        exact pw_iret C h dX6_hours_71
      · have h := fn_neg c37 h
        refine pw_ldc C k5 dX6_hours_40 ?_
        exact pw_iret C h dX6_hours_42
    · have h := fn_neg c19 h
      refine pw_ldc C k3 dX6_hours_22 ?_
      exact pw_iret C h dX6_hours_24
  · have h := fn_neg c4 h
    refine pw_ldc C k1 dX6_hours_7 ?_
    exact pw_iret C h dX6_hours_9
set_option maxHeartbeats 4000000 in
set_option maxRecDepth 100000 in
theorem ct_X6_put (l : Launch) {G : pw_G} (hG : pw_Ok G) {a1 : Int32} {a2 : Int32}  {μ μ' : pw_Mem} {r : Int32} (h : fn_X6_put a1 a2 μ = some (r, μ')) : Met l yX6_put wsX6_put ({ frames := 2, cells := 0, slots := 0, locals := 46 }) (va_Pc [.ref (gad G 54), .int a1, .int a2] (pw_Pre G μ)) (va_Qi (fun (r1 : Int32) (u : pw_Mem) => r1 = r ∧ u = μ') (pw_B G) (gA G)) 0 0 (gA G) := by
  refine pw_met (lv := [(0, .ref (gad G 54)), (1, .int a1), (2, .int a2)]) (own := RX6) (cc := cX6_put) (maxL := 4) (ret := some .int) hG rfl (by decide) rfl rfl (Nat.le_of_ble_eq_true rfl) ?_
  intro p e s m below meth c C
  have iX6 : ∀ w ∈ u_ws RX6 TX6 16, w ∈ wsX6_put := fun _ h => List.mem_cons_of_mem _ (List.mem_append_right _ (h))
  have k1 := C.2.2.2.2.1 (.constant RX6 51 (-1000001)) (List.mem_cons_of_mem _ (List.mem_append_left _ (List.mem_of_getElem? (i := 0) rfl)))
  have k2 := C.2.2.2.2.1 (.fieldLink RX6 7 "PulpitRoadsModel" "w" "[I") (List.mem_cons_of_mem _ (List.mem_append_left _ (List.mem_of_getElem? (i := 1) rfl)))
  have k3 := C.2.2.2.2.1 (.constant RX6 146 (-1000002)) (List.mem_cons_of_mem _ (List.mem_append_left _ (List.mem_of_getElem? (i := 2) rfl)))
  unfold fn_X6_put at h
  refine pw_aload_n C dX6_put_0 rfl 0 rfl ?_
  refine pw_iload_n C dX6_put_1 rfl 1 rfl ?_
  obtain ⟨r2, m2, hc2, h⟩ := fn_bi_s h
  refine pw_callVi (rest := []) C (by decide) (pw_sh_54 _) rfl (ct_X6_isPulpit l C.2.2.2.2.2.2.2.2 hc2) (cwV 1 C.2.2.2.2.1 gX6_put_X6_isPulpit rfl rfl rfl (by decide +kernel) ⟨Nat.le_of_ble_eq_true rfl, Nat.le_of_ble_eq_true rfl⟩) rfl rfl (Nat.le_of_ble_eq_true rfl) dX6_put_2 ?_
  refine pw_if_eq (tgt := 16) C dX6_put_5 (by decide) (fun c5 => ?_) (fun c5 => ?_)
  · have h := fn_pos c5 h
    refine pw_ldc C k1 dX6_put_16 ?_
    exact pw_iret C h dX6_put_18
  · have h := fn_neg c5 h
    refine pw_aload_n C dX6_put_8 rfl 0 rfl ?_
    refine pw_iload_n C dX6_put_9 rfl 2 rfl ?_
    obtain ⟨r10, m10, hc10, h⟩ := fn_bi_s h
    refine pw_callVi (rest := []) C (by decide) (pw_sh_54 _) rfl (ct_X6_isStretch l C.2.2.2.2.2.2.2.2 hc10) (cwV 1 C.2.2.2.2.1 gX6_put_X6_isStretch rfl rfl rfl (by decide +kernel) ⟨Nat.le_of_ble_eq_true rfl, Nat.le_of_ble_eq_true rfl⟩) rfl rfl (Nat.le_of_ble_eq_true rfl) dX6_put_10 ?_
    refine pw_if_ne (tgt := 19) C dX6_put_13 (by decide) (fun c13 => ?_) (fun c13 => ?_)
    · have h := fn_pos c13 h
      refine pw_aload_n C dX6_put_19 rfl 0 rfl ?_
      refine pw_get (v := .ref (gad G 55)) C iX6 (by decide) (pw_sh_54 _) rfl 0 (by decide) k2 rfl dX6_put_20 ?_
      refine pw_bipush (v := (19 : Int32)) C dX6_put_23 (by decide) ?_
      refine pw_iload_n C dX6_put_25 rfl 1 rfl ?_
      refine pw_iadd C dX6_put_26 ?_
      obtain ⟨hi27, h⟩ := fn_ix_s h
      refine pw_iald C (by decide) (pw_sh_55 _) hi27 dX6_put_27 ?_
      refine pw_istore_n (lv' := [(3, .int (m10 55 (((19 : Int32) + a1)).toNatClampNeg)), (0, .ref (gad G 54)), (1, .int a1), (2, .int a2)]) C dX6_put_28 rfl (by decide) rfl ?_
      refine pw_iload_n C dX6_put_29 rfl 0 rfl ?_
      refine pw_iload_n C dX6_put_30 rfl 3 rfl ?_
      refine pw_icmp_ne (tgt := 37) C dX6_put_31 (by decide) (fun c31 => ?_) (fun c31 => ?_)
      · have h := fn_pos c31 h
        refine pw_aload_n C dX6_put_37 rfl 1 rfl ?_
        obtain ⟨m38, hc38, h⟩ := fn_bv_s h
        refine pw_callVv (rest := []) C (by decide) (pw_sh_54 _) rfl (ct_X6_minds l C.2.2.2.2.2.2.2.2 hc38) (cwV 0 C.2.2.2.2.1 gX6_put_X6_minds rfl rfl rfl (by decide +kernel) ⟨Nat.le_of_ble_eq_true rfl, Nat.le_of_ble_eq_true rfl⟩) rfl rfl (Nat.le_of_ble_eq_true rfl) dX6_put_38 ?_
        refine pw_aload_n C dX6_put_41 rfl 1 rfl ?_
        refine pw_get (v := .ref (gad G 55)) C iX6 (by decide) (pw_sh_54 _) rfl 0 (by decide) k2 rfl dX6_put_42 ?_
        refine pw_bipush (v := (19 : Int32)) C dX6_put_45 (by decide) ?_
        refine pw_iload_n C dX6_put_47 rfl 2 rfl ?_
        refine pw_iadd C dX6_put_48 ?_
        refine pw_iload_n C dX6_put_49 rfl 3 rfl ?_
        obtain ⟨hi50, h⟩ := fn_ix_s h
        refine pw_iast C (by decide) pw_sh_55 hi50 dX6_put_50 ?_
        refine pw_iload_n C dX6_put_51 rfl 0 rfl ?_
        exact pw_iret C h dX6_put_52
      · have h := fn_neg c31 h
        refine pw_ldc C k3 dX6_put_34 ?_
        exact pw_iret C h dX6_put_36
    · have h := fn_neg c13 h
      refine pw_ldc C k1 dX6_put_16 ?_
      exact pw_iret C h dX6_put_18
set_option maxHeartbeats 4000000 in
set_option maxRecDepth 100000 in
theorem ct_X6_skip (l : Launch) {G : pw_G} (hG : pw_Ok G) {a1 : Int32} {a2 : Int32}  {μ μ' : pw_Mem} {r : Int32} (h : fn_X6_skip a1 a2 μ = some (r, μ')) : Met l yX6_skip wsX6_skip ({ frames := 2, cells := 0, slots := 0, locals := 46 }) (va_Pc [.ref (gad G 54), .int a1, .int a2] (pw_Pre G μ)) (va_Qi (fun (r1 : Int32) (u : pw_Mem) => r1 = r ∧ u = μ') (pw_B G) (gA G)) 0 0 (gA G) := by
  refine pw_met (lv := [(0, .ref (gad G 54)), (1, .int a1), (2, .int a2)]) (own := RX6) (cc := cX6_skip) (maxL := 4) (ret := some .int) hG rfl (by decide) rfl rfl (Nat.le_of_ble_eq_true rfl) ?_
  intro p e s m below meth c C
  have iX6 : ∀ w ∈ u_ws RX6 TX6 16, w ∈ wsX6_skip := fun _ h => List.mem_cons_of_mem _ (List.mem_append_right _ (h))
  have k1 := C.2.2.2.2.1 (.fieldLink RX6 7 "PulpitRoadsModel" "w" "[I") (List.mem_cons_of_mem _ (List.mem_append_left _ (List.mem_of_getElem? (i := 0) rfl)))
  have k2 := C.2.2.2.2.1 (.constant RX6 51 (-1000001)) (List.mem_cons_of_mem _ (List.mem_append_left _ (List.mem_of_getElem? (i := 1) rfl)))
  unfold fn_X6_skip at h
  refine pw_aload_n C dX6_skip_0 rfl 0 rfl ?_
  refine pw_iload_n C dX6_skip_1 rfl 1 rfl ?_
  obtain ⟨r2, m2, hc2, h⟩ := fn_bi_s h
  refine pw_callVi (rest := []) C (by decide) (pw_sh_54 _) rfl (ct_X6_isPulpit l C.2.2.2.2.2.2.2.2 hc2) (cwV 1 C.2.2.2.2.1 gX6_skip_X6_isPulpit rfl rfl rfl (by decide +kernel) ⟨Nat.le_of_ble_eq_true rfl, Nat.le_of_ble_eq_true rfl⟩) rfl rfl (Nat.le_of_ble_eq_true rfl) dX6_skip_2 ?_
  refine pw_if_eq (tgt := 26) C dX6_skip_5 (by decide) (fun c5 => ?_) (fun c5 => ?_)
  · have h := fn_pos c5 h
    refine pw_ldc C k2 dX6_skip_26 ?_
    exact pw_iret C h dX6_skip_28
  · have h := fn_neg c5 h
    refine pw_iload_n C dX6_skip_8 rfl 2 rfl ?_
    refine pw_i2l C dX6_skip_9 ?_
    refine pw_lconst (v := (0 : Int64)) C dX6_skip_10 (by decide) ?_
    refine pw_aload_n C dX6_skip_11 rfl 0 rfl ?_
    refine pw_get (v := .ref (gad G 55)) C iX6 (by decide) (pw_sh_54 _) rfl 0 (by decide) k1 rfl dX6_skip_12 ?_
    refine pw_iconst (v := (2 : Int32)) C dX6_skip_15 (by decide) ?_
    obtain ⟨hi16, h⟩ := fn_ix_s h
    refine pw_iald C (by decide) (pw_sh_55 _) hi16 dX6_skip_16 ?_
    refine pw_iconst (v := (1 : Int32)) C dX6_skip_17 (by decide) ?_
    refine pw_isub C dX6_skip_18 ?_
    refine pw_i2l C dX6_skip_19 ?_
    obtain ⟨r20, m20, hc20, h⟩ := fn_bi_s h
    refine pw_callSi (rest := []) C (ct_X6_in l C.2.2.2.2.2.2.2.2 hc20) (va_cwS 3 C.2.2.2.2.1 gX6_skip_X6_in rfl rfl rfl (by decide +kernel) ⟨Nat.le_of_ble_eq_true rfl, Nat.le_of_ble_eq_true rfl⟩) rfl rfl (Nat.le_of_ble_eq_true rfl) dX6_skip_20 ?_
    refine pw_if_ne (tgt := 29) C dX6_skip_23 (by decide) (fun c23 => ?_) (fun c23 => ?_)
    · have h := fn_pos c23 h
      refine pw_aload_n C dX6_skip_29 rfl 0 rfl ?_
      obtain ⟨m30, hc30, h⟩ := fn_bv_s h
      refine pw_callVv (rest := []) C (by decide) (pw_sh_54 _) rfl (ct_X6_minds l C.2.2.2.2.2.2.2.2 hc30) (cwV 0 C.2.2.2.2.1 gX6_skip_X6_minds rfl rfl rfl (by decide +kernel) ⟨Nat.le_of_ble_eq_true rfl, Nat.le_of_ble_eq_true rfl⟩) rfl rfl (Nat.le_of_ble_eq_true rfl) dX6_skip_30 ?_
      refine pw_aload_n C dX6_skip_33 rfl 0 rfl ?_
      refine pw_get (v := .ref (gad G 55)) C iX6 (by decide) (pw_sh_54 _) rfl 0 (by decide) k1 rfl dX6_skip_34 ?_
      refine pw_bipush (v := (24 : Int32)) C dX6_skip_37 (by decide) ?_
      refine pw_iload_n C dX6_skip_39 rfl 1 rfl ?_
      refine pw_iadd C dX6_skip_40 ?_
      obtain ⟨hi41, h⟩ := fn_ix_s h
      refine pw_iald C (by decide) (pw_sh_55 _) hi41 dX6_skip_41 ?_
      refine pw_istore_n (lv' := [(3, .int (m30 55 (((24 : Int32) + a1)).toNatClampNeg)), (0, .ref (gad G 54)), (1, .int a1), (2, .int a2)]) C dX6_skip_42 rfl (by decide) rfl ?_
      refine pw_aload_n C dX6_skip_43 rfl 1 rfl ?_
      refine pw_get (v := .ref (gad G 55)) C iX6 (by decide) (pw_sh_54 _) rfl 0 (by decide) k1 rfl dX6_skip_44 ?_
      refine pw_bipush (v := (24 : Int32)) C dX6_skip_47 (by decide) ?_
      refine pw_iload_n C dX6_skip_49 rfl 2 rfl ?_
      refine pw_iadd C dX6_skip_50 ?_
      refine pw_iload_n C dX6_skip_51 rfl 3 rfl ?_
      obtain ⟨hi52, h⟩ := fn_ix_s h
      refine pw_iast C (by decide) pw_sh_55 hi52 dX6_skip_52 ?_
      refine pw_iload_n C dX6_skip_53 rfl 0 rfl ?_
      exact pw_iret C h dX6_skip_54
    · have h := fn_neg c23 h
      refine pw_ldc C k2 dX6_skip_26 ?_
      exact pw_iret C h dX6_skip_28
set_option maxHeartbeats 4000000 in
set_option maxRecDepth 100000 in
theorem ct_X6_forget (l : Launch) {G : pw_G} (hG : pw_Ok G) {a1 : Int32}  {μ μ' : pw_Mem} {r : Int32} (h : fn_X6_forget a1 μ = some (r, μ')) : Met l yX6_forget wsX6_forget ({ frames := 2, cells := 0, slots := 0, locals := 46 }) (va_Pc [.ref (gad G 54), .int a1] (pw_Pre G μ)) (va_Qi (fun (r1 : Int32) (u : pw_Mem) => r1 = r ∧ u = μ') (pw_B G) (gA G)) 0 0 (gA G) := by
  refine pw_met (lv := [(0, .ref (gad G 54)), (1, .int a1)]) (own := RX6) (cc := cX6_forget) (maxL := 3) (ret := some .int) hG rfl (by decide) rfl rfl (Nat.le_of_ble_eq_true rfl) ?_
  intro p e s m below meth c C
  have iX6 : ∀ w ∈ u_ws RX6 TX6 16, w ∈ wsX6_forget := fun _ h => List.mem_cons_of_mem _ (List.mem_append_right _ (h))
  have k1 := C.2.2.2.2.1 (.constant RX6 51 (-1000001)) (List.mem_cons_of_mem _ (List.mem_append_left _ (List.mem_of_getElem? (i := 0) rfl)))
  have k2 := C.2.2.2.2.1 (.fieldLink RX6 7 "PulpitRoadsModel" "w" "[I") (List.mem_cons_of_mem _ (List.mem_append_left _ (List.mem_of_getElem? (i := 1) rfl)))
  have k3 := C.2.2.2.2.1 (.constant RX6 146 (-1000002)) (List.mem_cons_of_mem _ (List.mem_append_left _ (List.mem_of_getElem? (i := 2) rfl)))
  unfold fn_X6_forget at h
  refine pw_aload_n C dX6_forget_0 rfl 0 rfl ?_
  refine pw_iload_n C dX6_forget_1 rfl 1 rfl ?_
  obtain ⟨r2, m2, hc2, h⟩ := fn_bi_s h
  refine pw_callVi (rest := []) C (by decide) (pw_sh_54 _) rfl (ct_X6_isStretch l C.2.2.2.2.2.2.2.2 hc2) (cwV 1 C.2.2.2.2.1 gX6_forget_X6_isStretch rfl rfl rfl (by decide +kernel) ⟨Nat.le_of_ble_eq_true rfl, Nat.le_of_ble_eq_true rfl⟩) rfl rfl (Nat.le_of_ble_eq_true rfl) dX6_forget_2 ?_
  refine pw_if_ne (tgt := 11) C dX6_forget_5 (by decide) (fun c5 => ?_) (fun c5 => ?_)
  · have h := fn_pos c5 h
    refine pw_aload_n C dX6_forget_11 rfl 0 rfl ?_
    refine pw_get (v := .ref (gad G 55)) C iX6 (by decide) (pw_sh_54 _) rfl 0 (by decide) k2 rfl dX6_forget_12 ?_
    refine pw_bipush (v := (29 : Int32)) C dX6_forget_15 (by decide) ?_
    refine pw_iload_n C dX6_forget_17 rfl 1 rfl ?_
    refine pw_iadd C dX6_forget_18 ?_
    obtain ⟨hi19, h⟩ := fn_ix_s h
    refine pw_iald C (by decide) (pw_sh_55 _) hi19 dX6_forget_19 ?_
    refine pw_if_ne (tgt := 26) C dX6_forget_20 (by decide) (fun c20 => ?_) (fun c20 => ?_)
    · have h := fn_pos c20 h
      refine pw_aload_n C dX6_forget_26 rfl 0 rfl ?_
      obtain ⟨m27, hc27, h⟩ := fn_bv_s h
      refine pw_callVv (rest := []) C (by decide) (pw_sh_54 _) rfl (ct_X6_minds l C.2.2.2.2.2.2.2.2 hc27) (cwV 0 C.2.2.2.2.1 gX6_forget_X6_minds rfl rfl rfl (by decide +kernel) ⟨Nat.le_of_ble_eq_true rfl, Nat.le_of_ble_eq_true rfl⟩) rfl rfl (Nat.le_of_ble_eq_true rfl) dX6_forget_27 ?_
      refine pw_aload_n C dX6_forget_30 rfl 0 rfl ?_
      refine pw_get (v := .ref (gad G 55)) C iX6 (by decide) (pw_sh_54 _) rfl 0 (by decide) k2 rfl dX6_forget_31 ?_
      refine pw_bipush (v := (29 : Int32)) C dX6_forget_34 (by decide) ?_
      refine pw_iload_n C dX6_forget_36 rfl 1 rfl ?_
      refine pw_iadd C dX6_forget_37 ?_
      obtain ⟨hi38, h⟩ := fn_ix_s h
      refine pw_iald C (by decide) (pw_sh_55 _) hi38 dX6_forget_38 ?_
      obtain ⟨r39, m39, hc39, h⟩ := fn_bi_s h
      refine pw_callSi (rest := []) C (ct_X6_ones l C.2.2.2.2.2.2.2.2 hc39) (va_cwS 1 C.2.2.2.2.1 gX6_forget_X6_ones rfl rfl rfl (by decide +kernel) ⟨Nat.le_of_ble_eq_true rfl, Nat.le_of_ble_eq_true rfl⟩) rfl rfl (Nat.le_of_ble_eq_true rfl) dX6_forget_39 ?_
      refine pw_istore_n (lv' := [(2, .int r39), (0, .ref (gad G 54)), (1, .int a1)]) C dX6_forget_42 rfl (by decide) rfl ?_
      refine pw_aload_n C dX6_forget_43 rfl 1 rfl ?_
      refine pw_get (v := .ref (gad G 55)) C iX6 (by decide) (pw_sh_54 _) rfl 0 (by decide) k2 rfl dX6_forget_44 ?_
      refine pw_bipush (v := (29 : Int32)) C dX6_forget_47 (by decide) ?_
      refine pw_iload_n C dX6_forget_49 rfl 2 rfl ?_
      refine pw_iadd C dX6_forget_50 ?_
      refine pw_iconst (v := (0 : Int32)) C dX6_forget_51 (by decide) ?_
      obtain ⟨hi52, h⟩ := fn_ix_s h
      refine pw_iast C (by decide) pw_sh_55 hi52 dX6_forget_52 ?_
      refine pw_iload_n C dX6_forget_53 rfl 0 rfl ?_
      exact pw_iret C h dX6_forget_54
    · have h := fn_neg c20 h
      refine pw_ldc C k3 dX6_forget_23 ?_
      exact pw_iret C h dX6_forget_25
  · have h := fn_neg c5 h
    refine pw_ldc C k1 dX6_forget_8 ?_
    exact pw_iret C h dX6_forget_10
set_option maxHeartbeats 4000000 in
set_option maxRecDepth 100000 in
theorem ct_X6_undo (l : Launch) {G : pw_G} (hG : pw_Ok G)   {μ μ' : pw_Mem} {r : Int32} (h : fn_X6_undo μ = some (r, μ')) : Met l yX6_undo wsX6_undo ({ frames := 1, cells := 0, slots := 0, locals := 24 }) (va_Pc [.ref (gad G 54)] (pw_Pre G μ)) (va_Qi (fun (r1 : Int32) (u : pw_Mem) => r1 = r ∧ u = μ') (pw_B G) (gA G)) 0 0 (gA G) := by
  refine pw_met (lv := [(0, .ref (gad G 54))]) (own := RX6) (cc := cX6_undo) (maxL := 1) (ret := some .int) hG rfl (by decide) rfl rfl (Nat.le_of_ble_eq_true rfl) ?_
  intro p e s m below meth c C
  have iX6 : ∀ w ∈ u_ws RX6 TX6 16, w ∈ wsX6_undo := fun _ h => List.mem_cons_of_mem _ (List.mem_append_right _ (h))
  have k1 := C.2.2.2.2.1 (.fieldLink RX6 117 "PulpitRoadsModel" "undoes" "I") (List.mem_cons_of_mem _ (List.mem_append_left _ (List.mem_of_getElem? (i := 0) rfl)))
  have k2 := C.2.2.2.2.1 (.constant RX6 146 (-1000002)) (List.mem_cons_of_mem _ (List.mem_append_left _ (List.mem_of_getElem? (i := 1) rfl)))
  unfold fn_X6_undo at h
  refine pw_aload_n C dX6_undo_0 rfl 0 rfl ?_
  refine pw_get (v := .int (μ 54 1)) C iX6 (by decide) (pw_sh_54 _) rfl 1 (by decide) k1 rfl dX6_undo_1 ?_
  refine pw_if_ne (tgt := 10) C dX6_undo_4 (by decide) (fun c4 => ?_) (fun c4 => ?_)
  · have h := fn_pos c4 h
    refine pw_aload_n C dX6_undo_10 rfl 0 rfl ?_
    refine pw_dup C dX6_undo_11 rfl ?_
    refine pw_get (v := .int (μ 54 1)) C iX6 (by decide) (pw_sh_54 _) rfl 1 (by decide) k1 rfl dX6_undo_12 ?_
    refine pw_iconst (v := (1 : Int32)) C dX6_undo_15 (by decide) ?_
    refine pw_isub C dX6_undo_16 ?_
    refine pw_put (host := "PulpitRoads") (ty := .int) C iX6 tyX6 tyX6_ok nmX6 (by decide) (pw_sh_54 _) rfl 1 (by decide) (pw_sh_54 _) k1 rfl (by decide +kernel) (fn_int _) (Nat.le_of_ble_eq_true rfl) dX6_undo_17 ?_
    refine pw_aload_n C dX6_undo_20 rfl 0 rfl ?_
    refine pw_sipush (v := (190 : Int32)) C dX6_undo_21 (by decide) ?_
    refine pw_bipush (v := (20 : Int32)) C dX6_undo_24 (by decide) ?_
    refine pw_aload_n C dX6_undo_26 rfl 0 rfl ?_
    refine pw_get (v := .int ((pw_st μ 54 1 ((μ 54 1) - (1 : Int32))) 54 1)) C iX6 (by decide) (pw_sh_54 _) rfl 1 (by decide) k1 rfl dX6_undo_27 ?_
    refine pw_imul C dX6_undo_30 ?_
    refine pw_iadd C dX6_undo_31 ?_
    refine pw_bipush (v := (18 : Int32)) C dX6_undo_32 (by decide) ?_
    refine pw_bipush (v := (20 : Int32)) C dX6_undo_34 (by decide) ?_
    obtain ⟨m36, hc36, h⟩ := fn_bv_s h
    refine pw_callVv (rest := []) C (by decide) (pw_sh_54 _) rfl (ct_X6_copyOf l C.2.2.2.2.2.2.2.2 hc36) (cwV 3 C.2.2.2.2.1 gX6_undo_X6_copyOf rfl rfl rfl (by decide +kernel) ⟨Nat.le_of_ble_eq_true rfl, Nat.le_of_ble_eq_true rfl⟩) rfl rfl (Nat.le_of_ble_eq_true rfl) dX6_undo_36 ?_
    refine pw_aload_n C dX6_undo_39 rfl 0 rfl ?_
    refine pw_get (v := .int (m36 54 1)) C iX6 (by decide) (pw_sh_54 _) rfl 1 (by decide) k1 rfl dX6_undo_40 ?_
    exact pw_iret C h dX6_undo_43
  · have h := fn_neg c4 h
    refine pw_ldc C k2 dX6_undo_7 ?_
    exact pw_iret C h dX6_undo_9
set_option maxHeartbeats 4000000 in
set_option maxRecDepth 100000 in
theorem ct_X6_pulpit (l : Launch) {G : pw_G} (hG : pw_Ok G) {a1 : Int32} {a2 : Int32}  {μ μ' : pw_Mem} {r : Int32} (h : fn_X6_pulpit a1 a2 μ = some (r, μ')) : Met l yX6_pulpit wsX6_pulpit ({ frames := 2, cells := 0, slots := 0, locals := 49 }) (va_Pc [.ref (gad G 54), .int a1, .int a2] (pw_Pre G μ)) (va_Qi (fun (r1 : Int32) (u : pw_Mem) => r1 = r ∧ u = μ') (pw_B G) (gA G)) 0 0 (gA G) := by
  refine pw_met (lv := [(0, .ref (gad G 54)), (1, .int a1), (2, .int a2)]) (own := RX6) (cc := cX6_pulpit) (maxL := 3) (ret := some .int) hG rfl (by decide) rfl rfl (Nat.le_of_ble_eq_true rfl) ?_
  intro p e s m below meth c C
  have iX6 : ∀ w ∈ u_ws RX6 TX6 16, w ∈ wsX6_pulpit := fun _ h => List.mem_cons_of_mem _ (List.mem_append_right _ (h))
  have k1 := C.2.2.2.2.1 (.constant RX6 51 (-1000001)) (List.mem_cons_of_mem _ (List.mem_append_left _ (List.mem_of_getElem? (i := 0) rfl)))
  have k2 := C.2.2.2.2.1 (.fieldLink RX6 7 "PulpitRoadsModel" "w" "[I") (List.mem_cons_of_mem _ (List.mem_append_left _ (List.mem_of_getElem? (i := 1) rfl)))
  unfold fn_X6_pulpit at h
  refine pw_aload_n C dX6_pulpit_0 rfl 0 rfl ?_
  refine pw_iload_n C dX6_pulpit_1 rfl 1 rfl ?_
  obtain ⟨r2, m2, hc2, h⟩ := fn_bi_s h
  refine pw_callVi (rest := []) C (by decide) (pw_sh_54 _) rfl (ct_X6_isPulpit l C.2.2.2.2.2.2.2.2 hc2) (cwV 1 C.2.2.2.2.1 gX6_pulpit_X6_isPulpit rfl rfl rfl (by decide +kernel) ⟨Nat.le_of_ble_eq_true rfl, Nat.le_of_ble_eq_true rfl⟩) rfl rfl (Nat.le_of_ble_eq_true rfl) dX6_pulpit_2 ?_
  refine pw_if_ne (tgt := 11) C dX6_pulpit_5 (by decide) (fun c5 => ?_) (fun c5 => ?_)
  · have h := fn_pos c5 h
    refine pw_iload_n C dX6_pulpit_11 rfl 2 rfl ?_
    by_cases c12_0 : a2 = 0
    · have h := fn_pos c12_0 h
      refine pw_tabIn (tgt := 44) C 0 c12_0 dX6_pulpit_12 (by decide) (by decide) rfl (by decide) ?_
      refine pw_aload_n C dX6_pulpit_44 rfl 0 rfl ?_
      refine pw_get (v := .ref (gad G 55)) C iX6 (by decide) (pw_sh_54 _) rfl 0 (by decide) k2 rfl dX6_pulpit_45 ?_
      refine pw_bipush (v := (19 : Int32)) C dX6_pulpit_48 (by decide) ?_
      refine pw_iload_n C dX6_pulpit_50 rfl 1 rfl ?_
      refine pw_iadd C dX6_pulpit_51 ?_
      obtain ⟨hi52, h⟩ := fn_ix_s h
      refine pw_iald C (by decide) (pw_sh_55 _) hi52 dX6_pulpit_52 ?_
      exact pw_iret C h dX6_pulpit_53
    · have h := fn_neg c12_0 h
      have n12_0 := pw_neI c12_0 (show (0 : Int32).toInt = 0 by decide)
      by_cases c12_1 : a2 = 1
      · have h := fn_pos c12_1 h
        refine pw_tabIn (tgt := 54) C 1 c12_1 dX6_pulpit_12 (by decide) (by decide) rfl (by decide) ?_
        refine pw_aload_n C dX6_pulpit_54 rfl 0 rfl ?_
        refine pw_get (v := .ref (gad G 55)) C iX6 (by decide) (pw_sh_54 _) rfl 0 (by decide) k2 rfl dX6_pulpit_55 ?_
        refine pw_bipush (v := (24 : Int32)) C dX6_pulpit_58 (by decide) ?_
        refine pw_iload_n C dX6_pulpit_60 rfl 1 rfl ?_
        refine pw_iadd C dX6_pulpit_61 ?_
        obtain ⟨hi62, h⟩ := fn_ix_s h
        refine pw_iald C (by decide) (pw_sh_55 _) hi62 dX6_pulpit_62 ?_
        exact pw_iret C h dX6_pulpit_63
      · have h := fn_neg c12_1 h
        have n12_1 := pw_neI c12_1 (show (1 : Int32).toInt = 1 by decide)
        by_cases c12_2 : a2 = 2
        · have h := fn_pos c12_2 h
          refine pw_tabIn (tgt := 64) C 2 c12_2 dX6_pulpit_12 (by decide) (by decide) rfl (by decide) ?_
          refine pw_aload_n C dX6_pulpit_64 rfl 0 rfl ?_
          refine pw_iconst (v := (0 : Int32)) C dX6_pulpit_65 (by decide) ?_
          obtain ⟨r66, m66, hc66, h⟩ := fn_bi_s h
          refine pw_callVi (rest := []) C (by decide) (pw_sh_54 _) rfl (ct_X6_councilsIn l C.2.2.2.2.2.2.2.2 hc66) (cwV 1 C.2.2.2.2.1 gX6_pulpit_X6_councilsIn rfl rfl rfl (by decide +kernel) ⟨Nat.le_of_ble_eq_true rfl, Nat.le_of_ble_eq_true rfl⟩) rfl rfl (Nat.le_of_ble_eq_true rfl) dX6_pulpit_66 ?_
          refine pw_iload_n C dX6_pulpit_69 rfl 1 rfl ?_
          refine pw_ishr C dX6_pulpit_70 ?_
          refine pw_iconst (v := (1 : Int32)) C dX6_pulpit_71 (by decide) ?_
          refine pw_iand C dX6_pulpit_72 ?_
          exact pw_iret C h dX6_pulpit_73
        · have h := fn_neg c12_2 h
          have n12_2 := pw_neI c12_2 (show (2 : Int32).toInt = 2 by decide)
          by_cases c12_3 : a2 = 3
          · have h := fn_pos c12_3 h
            refine pw_tabIn (tgt := 74) C 3 c12_3 dX6_pulpit_12 (by decide) (by decide) rfl (by decide) ?_
            refine pw_aload_n C dX6_pulpit_74 rfl 0 rfl ?_
            refine pw_iconst (v := (0 : Int32)) C dX6_pulpit_75 (by decide) ?_
            refine pw_iload_n C dX6_pulpit_76 rfl 1 rfl ?_
            obtain ⟨r77, m77, hc77, h⟩ := fn_bi_s h
            refine pw_callVi (rest := []) C (by decide) (pw_sh_54 _) rfl (ct_X6_saysIn l C.2.2.2.2.2.2.2.2 hc77) (cwV 2 C.2.2.2.2.1 gX6_pulpit_X6_saysIn rfl rfl rfl (by decide +kernel) ⟨Nat.le_of_ble_eq_true rfl, Nat.le_of_ble_eq_true rfl⟩) rfl rfl (Nat.le_of_ble_eq_true rfl) dX6_pulpit_77 ?_
            exact pw_iret C h dX6_pulpit_80
          · have h := fn_neg c12_3 h
            have n12_3 := pw_neI c12_3 (show (3 : Int32).toInt = 3 by decide)
            refine pw_tabOut (tgt := 81) C dX6_pulpit_12 (by omega) (by decide) ?_
            refine pw_ldc C k1 dX6_pulpit_81 ?_
            exact pw_iret C h dX6_pulpit_83
  · have h := fn_neg c5 h
    refine pw_ldc C k1 dX6_pulpit_8 ?_
    exact pw_iret C h dX6_pulpit_10
set_option maxHeartbeats 4000000 in
set_option maxRecDepth 100000 in
theorem ct_X6_pulpitsAt (l : Launch) {G : pw_G} (hG : pw_Ok G) {a1 : Int32}  {μ μ' : pw_Mem} {r : Int32} (h : fn_X6_pulpitsAt a1 μ = some (r, μ')) : Met l yX6_pulpitsAt wsX6_pulpitsAt ({ frames := 0, cells := 0, slots := 0, locals := 0 }) (va_Pc [.ref (gad G 54), .int a1] (pw_Pre G μ)) (va_Qi (fun (r1 : Int32) (u : pw_Mem) => r1 = r ∧ u = μ') (pw_B G) (gA G)) 0 0 (gA G) := by
  refine pw_met (lv := [(0, .ref (gad G 54)), (1, .int a1)]) (own := RX6) (cc := cX6_pulpitsAt) (maxL := 4) (ret := some .int) hG rfl (by decide) rfl rfl (Nat.le_of_ble_eq_true rfl) ?_
  intro p e s m below meth c C
  have iX6 : ∀ w ∈ u_ws RX6 TX6 16, w ∈ wsX6_pulpitsAt := fun _ h => List.mem_cons_of_mem _ (List.mem_append_right _ (h))
  have k1 := C.2.2.2.2.1 (.fieldLink RX6 7 "PulpitRoadsModel" "w" "[I") (List.mem_cons_of_mem _ (List.mem_append_left _ (List.mem_of_getElem? (i := 0) rfl)))
  unfold fn_X6_pulpitsAt at h
  refine pw_iconst (v := (0 : Int32)) C dX6_pulpitsAt_0 (by decide) ?_
  refine pw_istore_n (lv' := [(2, .int (0 : Int32)), (0, .ref (gad G 54)), (1, .int a1)]) C dX6_pulpitsAt_1 rfl (by decide) rfl ?_
  refine pw_iconst (v := (0 : Int32)) C dX6_pulpitsAt_2 (by decide) ?_
  refine pw_istore_n (lv' := [(3, .int (0 : Int32)), (2, .int (0 : Int32)), (0, .ref (gad G 54)), (1, .int a1)]) C dX6_pulpitsAt_3 rfl (by decide) rfl ?_
  have L4 : ∀ (k : Int32 → pw_Mem → Option (Int32 × pw_Mem)) (hk : ∀ (v2 : Int32) (m1 : pw_Mem), k v2 m1 = some (r, μ') → pw_Go p l e ({ frames := 0, cells := 0, slots := 0, locals := 0 }) s m (([.ref (gad G 54), .int a1] : List Value).toArray) below meth c (MQ below (va_Qi (fun (r1 : Int32) (u : pw_Mem) => r1 = r ∧ u = μ') (pw_B G) (gA G)) (([.ref (gad G 54), .int a1] : List Value).toArray) s 0 0 (gA G)) G 4 43 [(2, .int v2)] [] m1) (n : Nat) (v2 : Int32) (v3 : Int32) (m1 : pw_Mem), fl_X6_pulpitsAt_4 k a1 n v2 v3 m1 = some (r, μ') → pw_Go p l e ({ frames := 0, cells := 0, slots := 0, locals := 0 }) s m (([.ref (gad G 54), .int a1] : List Value).toArray) below meth c (MQ below (va_Qi (fun (r1 : Int32) (u : pw_Mem) => r1 = r ∧ u = μ') (pw_B G) (gA G)) (([.ref (gad G 54), .int a1] : List Value).toArray) s 0 0 (gA G)) G 4 4 [(0, .ref (gad G 54)), (1, .int a1), (2, .int v2), (3, .int v3)] [] m1 := by
    intro k hk n
    induction n with
    | zero => intro v2 v3 m1 h; exact nomatch (show (none : Option (Int32 × pw_Mem)) = some _ from h)
    | succ n ih =>
      intro v2 v3 m1 h
      rw [fl_X6_pulpitsAt_4] at h
      refine pw_iload_n C dX6_pulpitsAt_4 rfl 3 rfl ?_
      refine pw_aload_n C dX6_pulpitsAt_5 rfl 0 rfl ?_
      refine pw_get (v := .ref (gad G 55)) C iX6 (by decide) (pw_sh_54 _) rfl 0 (by decide) k1 rfl dX6_pulpitsAt_6 ?_
      refine pw_iconst (v := (1 : Int32)) C dX6_pulpitsAt_9 (by decide) ?_
      obtain ⟨hi10, h⟩ := fn_ix_s h
      refine pw_iald C (by decide) (pw_sh_55 _) hi10 dX6_pulpitsAt_10 ?_
      refine pw_icmp_ge (tgt := 43) C dX6_pulpitsAt_11 (by decide) (fun c11 => ?_) (fun c11 => ?_)
      · have h := fn_pos c11 h
        refine pw_sub [2] rfl ?_
        exact hk _ _ h
      · have h := fn_neg c11 h
        refine pw_iload_n C dX6_pulpitsAt_14 rfl 2 rfl ?_
        refine pw_aload_n C dX6_pulpitsAt_15 rfl 0 rfl ?_
        refine pw_get (v := .ref (gad G 55)) C iX6 (by decide) (pw_sh_54 _) rfl 0 (by decide) k1 rfl dX6_pulpitsAt_16 ?_
        refine pw_bipush (v := (19 : Int32)) C dX6_pulpitsAt_19 (by decide) ?_
        refine pw_iload_n C dX6_pulpitsAt_21 rfl 3 rfl ?_
        refine pw_iadd C dX6_pulpitsAt_22 ?_
        obtain ⟨hi23, h⟩ := fn_ix_s h
        refine pw_iald C (by decide) (pw_sh_55 _) hi23 dX6_pulpitsAt_23 ?_
        refine pw_iload_n C dX6_pulpitsAt_24 rfl 1 rfl ?_
        refine fn_jn1_s (fun x35_0 m35 => pw_Go p l e ({ frames := 0, cells := 0, slots := 0, locals := 0 }) s m (([.ref (gad G 54), .int a1] : List Value).toArray) below meth c (MQ below (va_Qi (fun (r1 : Int32) (u : pw_Mem) => r1 = r ∧ u = μ') (pw_B G) (gA G)) (([.ref (gad G 54), .int a1] : List Value).toArray) s 0 0 (gA G)) G 4 35 [(0, .ref (gad G 54)), (1, .int a1), (3, .int v3)] [.int x35_0, .int v2] m35) h (fun x35_0 m35 h => ?_) (fun k35 hk35 h => ?_)
        · refine pw_ior C dX6_pulpitsAt_35 ?_
          refine pw_istore_n (lv' := [(2, .int (v2 ||| x35_0)), (0, .ref (gad G 54)), (1, .int a1), (3, .int v3)]) C dX6_pulpitsAt_36 rfl (by decide) rfl ?_
          refine pw_iinc (v := (v3 + 1)) (lv' := [(3, .int (v3 + 1)), (2, .int (v2 ||| x35_0)), (0, .ref (gad G 54)), (1, .int a1)]) C dX6_pulpitsAt_37 (q := 3) rfl rfl (by decide) rfl ?_
          refine pw_goto (tgt := 4) C dX6_pulpitsAt_40 (by decide) ?_
          refine pw_sub [2, 3, 1, 0] rfl ?_
          exact ih _ _ _ h
        · refine pw_icmp_ne (tgt := 34) C dX6_pulpitsAt_25 (by decide) (fun c25 => ?_) (fun c25 => ?_)
          · have h := fn_pos c25 h
            refine pw_iconst (v := (0 : Int32)) C dX6_pulpitsAt_34 (by decide) ?_
            refine pw_sub [0, 1, 3] rfl ?_
            exact hk35 _ _ h
          · have h := fn_neg c25 h
            refine pw_iconst (v := (1 : Int32)) C dX6_pulpitsAt_28 (by decide) ?_
            refine pw_iload_n C dX6_pulpitsAt_29 rfl 3 rfl ?_
            refine pw_ishl C dX6_pulpitsAt_30 ?_
            refine pw_goto (tgt := 35) C dX6_pulpitsAt_31 (by decide) ?_
            refine pw_sub [0, 1, 3] rfl ?_
            exact hk35 _ _ h
  refine pw_sub [2, 3, 1, 0] rfl ?_
  refine L4 _ (fun y4_2 m43 h => ?_) _ _ _ _ h
  refine pw_iload_n C dX6_pulpitsAt_43 rfl 0 rfl ?_
  exact pw_iret C h dX6_pulpitsAt_44
set_option maxHeartbeats 4000000 in
set_option maxRecDepth 100000 in
theorem ct_X6_stretch (l : Launch) {G : pw_G} (hG : pw_Ok G) {a1 : Int32} {a2 : Int32}  {μ μ' : pw_Mem} {r : Int32} (h : fn_X6_stretch a1 a2 μ = some (r, μ')) : Met l yX6_stretch wsX6_stretch ({ frames := 2, cells := 0, slots := 0, locals := 46 }) (va_Pc [.ref (gad G 54), .int a1, .int a2] (pw_Pre G μ)) (va_Qi (fun (r1 : Int32) (u : pw_Mem) => r1 = r ∧ u = μ') (pw_B G) (gA G)) 0 0 (gA G) := by
  refine pw_met (lv := [(0, .ref (gad G 54)), (1, .int a1), (2, .int a2)]) (own := RX6) (cc := cX6_stretch) (maxL := 3) (ret := some .int) hG rfl (by decide) rfl rfl (Nat.le_of_ble_eq_true rfl) ?_
  intro p e s m below meth c C
  have iX6 : ∀ w ∈ u_ws RX6 TX6 16, w ∈ wsX6_stretch := fun _ h => List.mem_cons_of_mem _ (List.mem_append_right _ (h))
  have k1 := C.2.2.2.2.1 (.constant RX6 51 (-1000001)) (List.mem_cons_of_mem _ (List.mem_append_left _ (List.mem_of_getElem? (i := 0) rfl)))
  have k2 := C.2.2.2.2.1 (.fieldLink RX6 7 "PulpitRoadsModel" "w" "[I") (List.mem_cons_of_mem _ (List.mem_append_left _ (List.mem_of_getElem? (i := 1) rfl)))
  unfold fn_X6_stretch at h
  refine pw_aload_n C dX6_stretch_0 rfl 0 rfl ?_
  refine pw_iload_n C dX6_stretch_1 rfl 1 rfl ?_
  obtain ⟨r2, m2, hc2, h⟩ := fn_bi_s h
  refine pw_callVi (rest := []) C (by decide) (pw_sh_54 _) rfl (ct_X6_isStretch l C.2.2.2.2.2.2.2.2 hc2) (cwV 1 C.2.2.2.2.1 gX6_stretch_X6_isStretch rfl rfl rfl (by decide +kernel) ⟨Nat.le_of_ble_eq_true rfl, Nat.le_of_ble_eq_true rfl⟩) rfl rfl (Nat.le_of_ble_eq_true rfl) dX6_stretch_2 ?_
  refine pw_if_ne (tgt := 11) C dX6_stretch_5 (by decide) (fun c5 => ?_) (fun c5 => ?_)
  · have h := fn_pos c5 h
    refine pw_iload_n C dX6_stretch_11 rfl 2 rfl ?_
    refine pw_if_ne (tgt := 26) C dX6_stretch_12 (by decide) (fun c12 => ?_) (fun c12 => ?_)
    · have h := fn_pos c12 h
      refine pw_iload_n C dX6_stretch_26 rfl 2 rfl ?_
      refine pw_iconst (v := (1 : Int32)) C dX6_stretch_27 (by decide) ?_
      refine pw_icmp_ne (tgt := 43) C dX6_stretch_28 (by decide) (fun c28 => ?_) (fun c28 => ?_)
      · have h := fn_pos c28 h
        refine pw_iload_n C dX6_stretch_43 rfl 2 rfl ?_
        refine pw_iconst (v := (2 : Int32)) C dX6_stretch_44 (by decide) ?_
        refine pw_icmp_ne (tgt := 56) C dX6_stretch_45 (by decide) (fun c45 => ?_) (fun c45 => ?_)
        · have h := fn_pos c45 h
          refine pw_ldc C k1 dX6_stretch_56 ?_
          exact pw_iret C h dX6_stretch_58
        · have h := fn_neg c45 h
          refine pw_aload_n C dX6_stretch_48 rfl 0 rfl ?_
          refine pw_iload_n C dX6_stretch_49 rfl 1 rfl ?_
          obtain ⟨r50, m50, hc50, h⟩ := fn_bi_s h
          refine pw_callVi (rest := []) C (by decide) (pw_sh_54 _) rfl (ct_X6_pulpitsAt l C.2.2.2.2.2.2.2.2 hc50) (cwV 1 C.2.2.2.2.1 gX6_stretch_X6_pulpitsAt rfl rfl rfl (by decide +kernel) ⟨Nat.le_of_ble_eq_true rfl, Nat.le_of_ble_eq_true rfl⟩) rfl rfl (Nat.le_of_ble_eq_true rfl) dX6_stretch_50 ?_
          refine pw_goto (tgt := 58) C dX6_stretch_53 (by decide) ?_
          exact pw_iret C h dX6_stretch_58
      · have h := fn_neg c28 h
        refine pw_aload_n C dX6_stretch_31 rfl 0 rfl ?_
        refine pw_get (v := .ref (gad G 55)) C iX6 (by decide) (pw_sh_54 _) rfl 0 (by decide) k2 rfl dX6_stretch_32 ?_
        refine pw_bipush (v := (29 : Int32)) C dX6_stretch_35 (by decide) ?_
        refine pw_iload_n C dX6_stretch_37 rfl 1 rfl ?_
        refine pw_iadd C dX6_stretch_38 ?_
        obtain ⟨hi39, h⟩ := fn_ix_s h
        refine pw_iald C (by decide) (pw_sh_55 _) hi39 dX6_stretch_39 ?_
        refine pw_goto (tgt := 58) C dX6_stretch_40 (by decide) ?_
        exact pw_iret C h dX6_stretch_58
    · have h := fn_neg c12 h
      refine pw_aload_n C dX6_stretch_15 rfl 0 rfl ?_
      refine pw_get (v := .ref (gad G 55)) C iX6 (by decide) (pw_sh_54 _) rfl 0 (by decide) k2 rfl dX6_stretch_16 ?_
      refine pw_iconst (v := (4 : Int32)) C dX6_stretch_19 (by decide) ?_
      refine pw_iload_n C dX6_stretch_20 rfl 1 rfl ?_
      refine pw_iadd C dX6_stretch_21 ?_
      obtain ⟨hi22, h⟩ := fn_ix_s h
      refine pw_iald C (by decide) (pw_sh_55 _) hi22 dX6_stretch_22 ?_
      refine pw_goto (tgt := 58) C dX6_stretch_23 (by decide) ?_
      exact pw_iret C h dX6_stretch_58
  · have h := fn_neg c5 h
    refine pw_ldc C k1 dX6_stretch_8 ?_
    exact pw_iret C h dX6_stretch_10
set_option maxHeartbeats 4000000 in
set_option maxRecDepth 100000 in
theorem ct_X6_tries (l : Launch) {G : pw_G} (hG : pw_Ok G)   {μ μ' : pw_Mem} (h : fn_X6_tries μ = some μ') : Met l yX6_tries wsX6_tries ({ frames := 1, cells := 0, slots := 0, locals := 24 }) (va_Pc [.ref (gad G 54)] (pw_Pre G μ)) (va_Qv (fun (u : pw_Mem) => u = μ') (pw_B G) (gA G)) 0 0 (gA G) := by
  refine pw_met (lv := [(0, .ref (gad G 54))]) (own := RX6) (cc := cX6_tries) (maxL := 1) (ret := none) hG rfl (by decide) rfl rfl (Nat.le_of_ble_eq_true rfl) ?_
  intro p e s m below meth c C
  unfold fn_X6_tries at h
  refine pw_aload_n C dX6_tries_0 rfl 0 rfl ?_
  refine pw_iconst (v := (0 : Int32)) C dX6_tries_1 (by decide) ?_
  refine pw_bipush (v := (38 : Int32)) C dX6_tries_2 (by decide) ?_
  refine pw_bipush (v := (38 : Int32)) C dX6_tries_4 (by decide) ?_
  obtain ⟨m6, hc6, h⟩ := fn_bv_s h
  refine pw_callVv (rest := []) C (by decide) (pw_sh_54 _) rfl (ct_X6_copyOf l C.2.2.2.2.2.2.2.2 hc6) (cwV 3 C.2.2.2.2.1 gX6_tries_X6_copyOf rfl rfl rfl (by decide +kernel) ⟨Nat.le_of_ble_eq_true rfl, Nat.le_of_ble_eq_true rfl⟩) rfl rfl (Nat.le_of_ble_eq_true rfl) dX6_tries_6 ?_
  exact pw_vret C h dX6_tries_9
set_option maxHeartbeats 4000000 in
set_option maxRecDepth 100000 in
theorem ct_X6_goesOn (l : Launch) {G : pw_G} (hG : pw_Ok G) {a1 : Int32}  {μ μ' : pw_Mem} (h : fn_X6_goesOn a1 μ = some μ') : Met l yX6_goesOn wsX6_goesOn ({ frames := 4, cells := 0, slots := 0, locals := 102 }) (va_Pc [.ref (gad G 54), .int a1] (pw_Pre G μ)) (va_Qv (fun (u : pw_Mem) => u = μ') (pw_B G) (gA G)) 0 0 (gA G) := by
  refine pw_met (lv := [(0, .ref (gad G 54)), (1, .int a1)]) (own := RX6) (cc := cX6_goesOn) (maxL := 3) (ret := none) hG rfl (by decide) rfl rfl (Nat.le_of_ble_eq_true rfl) ?_
  intro p e s m below meth c C
  unfold fn_X6_goesOn at h
  refine pw_iconst (v := (0 : Int32)) C dX6_goesOn_0 (by decide) ?_
  refine pw_istore_n (lv' := [(2, .int (0 : Int32)), (0, .ref (gad G 54)), (1, .int a1)]) C dX6_goesOn_1 rfl (by decide) rfl ?_
  have L2 : ∀ (k : pw_Mem → Option (pw_Mem)) (hk : ∀  (m1 : pw_Mem), k m1 = some μ' → pw_Go p l e ({ frames := 4, cells := 0, slots := 0, locals := 102 }) s m (([.ref (gad G 54), .int a1] : List Value).toArray) below meth c (MQ below (va_Qv (fun (u : pw_Mem) => u = μ') (pw_B G) (gA G)) (([.ref (gad G 54), .int a1] : List Value).toArray) s 0 0 (gA G)) G 3 20 [] [] m1) (n : Nat) (v2 : Int32) (m1 : pw_Mem), fl_X6_goesOn_2 k a1 n v2 m1 = some μ' → pw_Go p l e ({ frames := 4, cells := 0, slots := 0, locals := 102 }) s m (([.ref (gad G 54), .int a1] : List Value).toArray) below meth c (MQ below (va_Qv (fun (u : pw_Mem) => u = μ') (pw_B G) (gA G)) (([.ref (gad G 54), .int a1] : List Value).toArray) s 0 0 (gA G)) G 3 2 [(0, .ref (gad G 54)), (1, .int a1), (2, .int v2)] [] m1 := by
    intro k hk n
    induction n with
    | zero => intro v2 m1 h; exact nomatch (show (none : Option (pw_Mem)) = some _ from h)
    | succ n ih =>
      intro v2 m1 h
      rw [fl_X6_goesOn_2] at h
      refine pw_iload_n C dX6_goesOn_2 rfl 2 rfl ?_
      refine pw_iload_n C dX6_goesOn_3 rfl 1 rfl ?_
      refine pw_icmp_ge (tgt := 20) C dX6_goesOn_4 (by decide) (fun c4 => ?_) (fun c4 => ?_)
      · have h := fn_pos c4 h
        refine pw_sub [] rfl ?_
        exact hk _ h
      · have h := fn_neg c4 h
        refine pw_aload_n C dX6_goesOn_7 rfl 0 rfl ?_
        refine pw_bipush (v := (38 : Int32)) C dX6_goesOn_8 (by decide) ?_
        refine pw_iconst (v := (0 : Int32)) C dX6_goesOn_10 (by decide) ?_
        obtain ⟨m11, hc11, h⟩ := fn_bv_s h
        refine pw_callVv (rest := []) C (by decide) (pw_sh_54 _) rfl (ct_X6_hourBy l C.2.2.2.2.2.2.2.2 hc11) (cwV 2 C.2.2.2.2.1 gX6_goesOn_X6_hourBy rfl rfl rfl (by decide +kernel) ⟨Nat.le_of_ble_eq_true rfl, Nat.le_of_ble_eq_true rfl⟩) rfl rfl (Nat.le_of_ble_eq_true rfl) dX6_goesOn_11 ?_
        refine pw_iinc (v := (v2 + 1)) (lv' := [(2, .int (v2 + 1)), (0, .ref (gad G 54)), (1, .int a1)]) C dX6_goesOn_14 (q := 2) rfl rfl (by decide) rfl ?_
        refine pw_goto (tgt := 2) C dX6_goesOn_17 (by decide) ?_
        refine pw_sub [1, 2, 0] rfl ?_
        exact ih _ _ h
  refine pw_sub [1, 2, 0] rfl ?_
  refine L2 _ (fun m20 h => ?_) _ _ _ h
  exact pw_vret C h dX6_goesOn_20
set_option maxHeartbeats 4000000 in
set_option maxRecDepth 100000 in
theorem ct_X6_ahead (l : Launch) {G : pw_G} (hG : pw_Ok G) {a1 : Int32} {a2 : Int32} {a3 : Int32}  {μ μ' : pw_Mem} {r : Int32} (h : fn_X6_ahead a1 a2 a3 μ = some (r, μ')) : Met l yX6_ahead wsX6_ahead ({ frames := 5, cells := 0, slots := 0, locals := 124 }) (va_Pc [.ref (gad G 54), .int a1, .int a2, .int a3] (pw_Pre G μ)) (va_Qi (fun (r1 : Int32) (u : pw_Mem) => r1 = r ∧ u = μ') (pw_B G) (gA G)) 0 0 (gA G) := by
  refine pw_met (lv := [(0, .ref (gad G 54)), (1, .int a1), (2, .int a2), (3, .int a3)]) (own := RX6) (cc := cX6_ahead) (maxL := 4) (ret := some .int) hG rfl (by decide) rfl rfl (Nat.le_of_ble_eq_true rfl) ?_
  intro p e s m below meth c C
  have iX6 : ∀ w ∈ u_ws RX6 TX6 16, w ∈ wsX6_ahead := fun _ h => List.mem_cons_of_mem _ (List.mem_append_right _ (h))
  have k1 := C.2.2.2.2.1 (.constantLong RX6 167 (60)) (List.mem_cons_of_mem _ (List.mem_append_left _ (List.mem_append_left _ (List.mem_of_getElem? (i := 0) rfl))))
  have k2 := C.2.2.2.2.1 (.constant RX6 51 (-1000001)) (List.mem_cons_of_mem _ (List.mem_append_left _ (List.mem_append_left _ (List.mem_of_getElem? (i := 1) rfl))))
  have k3 := C.2.2.2.2.1 (.fieldLink RX6 7 "PulpitRoadsModel" "w" "[I") (List.mem_cons_of_mem _ (List.mem_append_left _ (List.mem_append_left _ (List.mem_of_getElem? (i := 2) rfl))))
  unfold fn_X6_ahead at h
  refine pw_aload_n C dX6_ahead_0 rfl 0 rfl ?_
  refine pw_iload_n C dX6_ahead_1 rfl 1 rfl ?_
  obtain ⟨r2, m2, hc2, h⟩ := fn_bi_s h
  refine pw_callVi (rest := []) C (by decide) (pw_sh_54 _) rfl (ct_X6_isPulpit l C.2.2.2.2.2.2.2.2 hc2) (cwV 1 C.2.2.2.2.1 gX6_ahead_X6_isPulpit rfl rfl rfl (by decide +kernel) ⟨Nat.le_of_ble_eq_true rfl, Nat.le_of_ble_eq_true rfl⟩) rfl rfl (Nat.le_of_ble_eq_true rfl) dX6_ahead_2 ?_
  refine pw_if_eq (tgt := 30) C dX6_ahead_5 (by decide) (fun c5 => ?_) (fun c5 => ?_)
  · have h := fn_pos c5 h
    refine pw_ldc C k2 dX6_ahead_30 ?_
    exact pw_iret C h dX6_ahead_32
  · have h := fn_neg c5 h
    refine pw_iload_n C dX6_ahead_8 rfl 2 rfl ?_
    refine pw_i2l C dX6_ahead_9 ?_
    refine pw_lconst (v := (0 : Int64)) C dX6_ahead_10 (by decide) ?_
    refine pw_ldc2 C k1 dX6_ahead_11 ?_
    obtain ⟨r14, m14, hc14, h⟩ := fn_bi_s h
    refine pw_callSi (rest := []) C (ct_X6_in l C.2.2.2.2.2.2.2.2 hc14) (va_cwS 3 C.2.2.2.2.1 gX6_ahead_X6_in rfl rfl rfl (by decide +kernel) ⟨Nat.le_of_ble_eq_true rfl, Nat.le_of_ble_eq_true rfl⟩) rfl rfl (Nat.le_of_ble_eq_true rfl) dX6_ahead_14 ?_
    refine pw_if_eq (tgt := 30) C dX6_ahead_17 (by decide) (fun c17 => ?_) (fun c17 => ?_)
    · have h := fn_pos c17 h
      refine pw_ldc C k2 dX6_ahead_30 ?_
      exact pw_iret C h dX6_ahead_32
    · have h := fn_neg c17 h
      refine pw_iload_n C dX6_ahead_20 rfl 3 rfl ?_
      refine pw_i2l C dX6_ahead_21 ?_
      refine pw_lconst (v := (0 : Int64)) C dX6_ahead_22 (by decide) ?_
      refine pw_lconst (v := (1 : Int64)) C dX6_ahead_23 (by decide) ?_
      obtain ⟨r24, m24, hc24, h⟩ := fn_bi_s h
      refine pw_callSi (rest := []) C (ct_X6_in l C.2.2.2.2.2.2.2.2 hc24) (va_cwS 3 C.2.2.2.2.1 gX6_ahead_X6_in rfl rfl rfl (by decide +kernel) ⟨Nat.le_of_ble_eq_true rfl, Nat.le_of_ble_eq_true rfl⟩) rfl rfl (Nat.le_of_ble_eq_true rfl) dX6_ahead_24 ?_
      refine pw_if_ne (tgt := 33) C dX6_ahead_27 (by decide) (fun c27 => ?_) (fun c27 => ?_)
      · have h := fn_pos c27 h
        refine pw_aload_n C dX6_ahead_33 rfl 0 rfl ?_
        obtain ⟨m34, hc34, h⟩ := fn_bv_s h
        refine pw_callVv (rest := []) C (by decide) (pw_sh_54 _) rfl (ct_X6_tries l C.2.2.2.2.2.2.2.2 hc34) (cwV 0 C.2.2.2.2.1 gX6_ahead_X6_tries rfl rfl rfl (by decide +kernel) ⟨Nat.le_of_ble_eq_true rfl, Nat.le_of_ble_eq_true rfl⟩) rfl rfl (Nat.le_of_ble_eq_true rfl) dX6_ahead_34 ?_
        refine pw_aload_n C dX6_ahead_37 rfl 0 rfl ?_
        refine pw_iload_n C dX6_ahead_38 rfl 2 rfl ?_
        obtain ⟨m39, hc39, h⟩ := fn_bv_s h
        refine pw_callVv (rest := []) C (by decide) (pw_sh_54 _) rfl (ct_X6_goesOn l C.2.2.2.2.2.2.2.2 hc39) (cwV 1 C.2.2.2.2.1 gX6_ahead_X6_goesOn rfl rfl rfl (by decide +kernel) ⟨Nat.le_of_ble_eq_true rfl, Nat.le_of_ble_eq_true rfl⟩) rfl rfl (Nat.le_of_ble_eq_true rfl) dX6_ahead_39 ?_
        refine pw_iload_n C dX6_ahead_42 rfl 3 rfl ?_
        refine pw_if_ne (tgt := 58) C dX6_ahead_43 (by decide) (fun c43 => ?_) (fun c43 => ?_)
        · have h := fn_pos c43 h
          refine pw_aload_n C dX6_ahead_58 rfl 0 rfl ?_
          refine pw_get (v := .ref (gad G 55)) C iX6 (by decide) (pw_sh_54 _) rfl 0 (by decide) k3 rfl dX6_ahead_59 ?_
          refine pw_bipush (v := (62 : Int32)) C dX6_ahead_62 (by decide) ?_
          refine pw_iload_n C dX6_ahead_64 rfl 1 rfl ?_
          refine pw_iadd C dX6_ahead_65 ?_
          obtain ⟨hi66, h⟩ := fn_ix_s h
          refine pw_iald C (by decide) (pw_sh_55 _) hi66 dX6_ahead_66 ?_
          exact pw_iret C h dX6_ahead_67
        · have h := fn_neg c43 h
          refine pw_aload_n C dX6_ahead_46 rfl 0 rfl ?_
          refine pw_get (v := .ref (gad G 55)) C iX6 (by decide) (pw_sh_54 _) rfl 0 (by decide) k3 rfl dX6_ahead_47 ?_
          refine pw_bipush (v := (57 : Int32)) C dX6_ahead_50 (by decide) ?_
          refine pw_iload_n C dX6_ahead_52 rfl 1 rfl ?_
          refine pw_iadd C dX6_ahead_53 ?_
          obtain ⟨hi54, h⟩ := fn_ix_s h
          refine pw_iald C (by decide) (pw_sh_55 _) hi54 dX6_ahead_54 ?_
          refine pw_goto (tgt := 67) C dX6_ahead_55 (by decide) ?_
          exact pw_iret C h dX6_ahead_67
      · have h := fn_neg c27 h
        refine pw_ldc C k2 dX6_ahead_30 ?_
        exact pw_iret C h dX6_ahead_32
set_option maxHeartbeats 4000000 in
set_option maxRecDepth 100000 in
theorem ct_X6_heard (l : Launch) {G : pw_G} (hG : pw_Ok G) {a1 : Int32} {a2 : Int32}  {μ μ' : pw_Mem} {r : Int32} (h : fn_X6_heard a1 a2 μ = some (r, μ')) : Met l yX6_heard wsX6_heard ({ frames := 5, cells := 0, slots := 0, locals := 124 }) (va_Pc [.ref (gad G 54), .int a1, .int a2] (pw_Pre G μ)) (va_Qi (fun (r1 : Int32) (u : pw_Mem) => r1 = r ∧ u = μ') (pw_B G) (gA G)) 0 0 (gA G) := by
  refine pw_met (lv := [(0, .ref (gad G 54)), (1, .int a1), (2, .int a2)]) (own := RX6) (cc := cX6_heard) (maxL := 3) (ret := some .int) hG rfl (by decide) rfl rfl (Nat.le_of_ble_eq_true rfl) ?_
  intro p e s m below meth c C
  have iX6 : ∀ w ∈ u_ws RX6 TX6 16, w ∈ wsX6_heard := fun _ h => List.mem_cons_of_mem _ (List.mem_append_right _ (h))
  have k1 := C.2.2.2.2.1 (.constantLong RX6 167 (60)) (List.mem_cons_of_mem _ (List.mem_append_left _ (List.mem_append_left _ (List.mem_of_getElem? (i := 0) rfl))))
  have k2 := C.2.2.2.2.1 (.constant RX6 51 (-1000001)) (List.mem_cons_of_mem _ (List.mem_append_left _ (List.mem_append_left _ (List.mem_of_getElem? (i := 1) rfl))))
  have k3 := C.2.2.2.2.1 (.fieldLink RX6 7 "PulpitRoadsModel" "w" "[I") (List.mem_cons_of_mem _ (List.mem_append_left _ (List.mem_append_left _ (List.mem_of_getElem? (i := 2) rfl))))
  unfold fn_X6_heard at h
  refine pw_aload_n C dX6_heard_0 rfl 0 rfl ?_
  refine pw_iload_n C dX6_heard_1 rfl 1 rfl ?_
  obtain ⟨r2, m2, hc2, h⟩ := fn_bi_s h
  refine pw_callVi (rest := []) C (by decide) (pw_sh_54 _) rfl (ct_X6_isStretch l C.2.2.2.2.2.2.2.2 hc2) (cwV 1 C.2.2.2.2.1 gX6_heard_X6_isStretch rfl rfl rfl (by decide +kernel) ⟨Nat.le_of_ble_eq_true rfl, Nat.le_of_ble_eq_true rfl⟩) rfl rfl (Nat.le_of_ble_eq_true rfl) dX6_heard_2 ?_
  refine pw_if_eq (tgt := 20) C dX6_heard_5 (by decide) (fun c5 => ?_) (fun c5 => ?_)
  · have h := fn_pos c5 h
    refine pw_ldc C k2 dX6_heard_20 ?_
    exact pw_iret C h dX6_heard_22
  · have h := fn_neg c5 h
    refine pw_iload_n C dX6_heard_8 rfl 2 rfl ?_
    refine pw_i2l C dX6_heard_9 ?_
    refine pw_lconst (v := (0 : Int64)) C dX6_heard_10 (by decide) ?_
    refine pw_ldc2 C k1 dX6_heard_11 ?_
    obtain ⟨r14, m14, hc14, h⟩ := fn_bi_s h
    refine pw_callSi (rest := []) C (ct_X6_in l C.2.2.2.2.2.2.2.2 hc14) (va_cwS 3 C.2.2.2.2.1 gX6_heard_X6_in rfl rfl rfl (by decide +kernel) ⟨Nat.le_of_ble_eq_true rfl, Nat.le_of_ble_eq_true rfl⟩) rfl rfl (Nat.le_of_ble_eq_true rfl) dX6_heard_14 ?_
    refine pw_if_ne (tgt := 23) C dX6_heard_17 (by decide) (fun c17 => ?_) (fun c17 => ?_)
    · have h := fn_pos c17 h
      refine pw_aload_n C dX6_heard_23 rfl 0 rfl ?_
      obtain ⟨m24, hc24, h⟩ := fn_bv_s h
      refine pw_callVv (rest := []) C (by decide) (pw_sh_54 _) rfl (ct_X6_tries l C.2.2.2.2.2.2.2.2 hc24) (cwV 0 C.2.2.2.2.1 gX6_heard_X6_tries rfl rfl rfl (by decide +kernel) ⟨Nat.le_of_ble_eq_true rfl, Nat.le_of_ble_eq_true rfl⟩) rfl rfl (Nat.le_of_ble_eq_true rfl) dX6_heard_24 ?_
      refine pw_aload_n C dX6_heard_27 rfl 0 rfl ?_
      refine pw_iload_n C dX6_heard_28 rfl 2 rfl ?_
      obtain ⟨m29, hc29, h⟩ := fn_bv_s h
      refine pw_callVv (rest := []) C (by decide) (pw_sh_54 _) rfl (ct_X6_goesOn l C.2.2.2.2.2.2.2.2 hc29) (cwV 1 C.2.2.2.2.1 gX6_heard_X6_goesOn rfl rfl rfl (by decide +kernel) ⟨Nat.le_of_ble_eq_true rfl, Nat.le_of_ble_eq_true rfl⟩) rfl rfl (Nat.le_of_ble_eq_true rfl) dX6_heard_29 ?_
      refine pw_aload_n C dX6_heard_32 rfl 0 rfl ?_
      refine pw_get (v := .ref (gad G 55)) C iX6 (by decide) (pw_sh_54 _) rfl 0 (by decide) k3 rfl dX6_heard_33 ?_
      refine pw_bipush (v := (67 : Int32)) C dX6_heard_36 (by decide) ?_
      refine pw_iload_n C dX6_heard_38 rfl 1 rfl ?_
      refine pw_iadd C dX6_heard_39 ?_
      obtain ⟨hi40, h⟩ := fn_ix_s h
      refine pw_iald C (by decide) (pw_sh_55 _) hi40 dX6_heard_40 ?_
      exact pw_iret C h dX6_heard_41
    · have h := fn_neg c17 h
      refine pw_ldc C k2 dX6_heard_20 ?_
      exact pw_iret C h dX6_heard_22
set_option maxHeartbeats 4000000 in
set_option maxRecDepth 100000 in
theorem ct_X6_whole (l : Launch) {G : pw_G} (hG : pw_Ok G) {a1 : Int32}  {μ μ' : pw_Mem} {r : Int32} (h : fn_X6_whole a1 μ = some (r, μ')) : Met l yX6_whole wsX6_whole ({ frames := 4, cells := 0, slots := 0, locals := 102 }) (va_Pc [.ref (gad G 54), .int a1] (pw_Pre G μ)) (va_Qi (fun (r1 : Int32) (u : pw_Mem) => r1 = r ∧ u = μ') (pw_B G) (gA G)) 0 0 (gA G) := by
  refine pw_met (lv := [(0, .ref (gad G 54)), (1, .int a1)]) (own := RX6) (cc := cX6_whole) (maxL := 3) (ret := some .int) hG rfl (by decide) rfl rfl (Nat.le_of_ble_eq_true rfl) ?_
  intro p e s m below meth c C
  have k1 := C.2.2.2.2.1 (.constant RX6 51 (-1000001)) (List.mem_cons_of_mem _ (List.mem_append_left _ (List.mem_append_left _ (List.mem_of_getElem? (i := 0) rfl))))
  have k2 := C.2.2.2.2.1 (.constant RX6 176 (-1000000)) (List.mem_cons_of_mem _ (List.mem_append_left _ (List.mem_append_left _ (List.mem_of_getElem? (i := 1) rfl))))
  unfold fn_X6_whole at h
  refine pw_aload_n C dX6_whole_0 rfl 0 rfl ?_
  refine pw_iload_n C dX6_whole_1 rfl 1 rfl ?_
  obtain ⟨r2, m2, hc2, h⟩ := fn_bi_s h
  refine pw_callVi (rest := []) C (by decide) (pw_sh_54 _) rfl (ct_X6_isStretch l C.2.2.2.2.2.2.2.2 hc2) (cwV 1 C.2.2.2.2.1 gX6_whole_X6_isStretch rfl rfl rfl (by decide +kernel) ⟨Nat.le_of_ble_eq_true rfl, Nat.le_of_ble_eq_true rfl⟩) rfl rfl (Nat.le_of_ble_eq_true rfl) dX6_whole_2 ?_
  refine pw_if_ne (tgt := 11) C dX6_whole_5 (by decide) (fun c5 => ?_) (fun c5 => ?_)
  · have h := fn_pos c5 h
    refine pw_aload_n C dX6_whole_11 rfl 0 rfl ?_
    obtain ⟨m12, hc12, h⟩ := fn_bv_s h
    refine pw_callVv (rest := []) C (by decide) (pw_sh_54 _) rfl (ct_X6_tries l C.2.2.2.2.2.2.2.2 hc12) (cwV 0 C.2.2.2.2.1 gX6_whole_X6_tries rfl rfl rfl (by decide +kernel) ⟨Nat.le_of_ble_eq_true rfl, Nat.le_of_ble_eq_true rfl⟩) rfl rfl (Nat.le_of_ble_eq_true rfl) dX6_whole_12 ?_
    refine pw_iconst (v := (0 : Int32)) C dX6_whole_15 (by decide) ?_
    refine pw_istore_n (lv' := [(2, .int (0 : Int32)), (0, .ref (gad G 54)), (1, .int a1)]) C dX6_whole_16 rfl (by decide) rfl ?_
    have L17 : ∀ (k : pw_Mem → Option (Int32 × pw_Mem)) (hk : ∀  (m1 : pw_Mem), k m1 = some (r, μ') → pw_Go p l e ({ frames := 4, cells := 0, slots := 0, locals := 102 }) s m (([.ref (gad G 54), .int a1] : List Value).toArray) below meth c (MQ below (va_Qi (fun (r1 : Int32) (u : pw_Mem) => r1 = r ∧ u = μ') (pw_B G) (gA G)) (([.ref (gad G 54), .int a1] : List Value).toArray) s 0 0 (gA G)) G 3 51 [] [] m1) (n : Nat) (v2 : Int32) (m1 : pw_Mem), fl_X6_whole_17 k a1 n v2 m1 = some (r, μ') → pw_Go p l e ({ frames := 4, cells := 0, slots := 0, locals := 102 }) s m (([.ref (gad G 54), .int a1] : List Value).toArray) below meth c (MQ below (va_Qi (fun (r1 : Int32) (u : pw_Mem) => r1 = r ∧ u = μ') (pw_B G) (gA G)) (([.ref (gad G 54), .int a1] : List Value).toArray) s 0 0 (gA G)) G 3 17 [(0, .ref (gad G 54)), (1, .int a1), (2, .int v2)] [] m1 := by
      intro k hk n
      induction n with
      | zero => intro v2 m1 h; exact nomatch (show (none : Option (Int32 × pw_Mem)) = some _ from h)
      | succ n ih =>
        intro v2 m1 h
        rw [fl_X6_whole_17] at h
        refine pw_iload_n C dX6_whole_17 rfl 2 rfl ?_
        refine pw_bipush (v := (60 : Int32)) C dX6_whole_18 (by decide) ?_
        refine pw_icmp_gt (tgt := 51) C dX6_whole_20 (by decide) (fun c20 => ?_) (fun c20 => ?_)
        · have h := fn_pos c20 h
          refine pw_sub [] rfl ?_
          exact hk _ h
        · have h := fn_neg c20 h
          refine pw_aload_n C dX6_whole_23 rfl 0 rfl ?_
          refine pw_bipush (v := (38 : Int32)) C dX6_whole_24 (by decide) ?_
          obtain ⟨r26, m26, hc26, h⟩ := fn_bi_s h
          refine pw_callVi (rest := []) C (by decide) (pw_sh_54 _) rfl (ct_X6_wholeOnes l C.2.2.2.2.2.2.2.2 hc26) (cwV 1 C.2.2.2.2.1 gX6_whole_X6_wholeOnes rfl rfl rfl (by decide +kernel) ⟨Nat.le_of_ble_eq_true rfl, Nat.le_of_ble_eq_true rfl⟩) rfl rfl (Nat.le_of_ble_eq_true rfl) dX6_whole_26 ?_
          refine pw_iload_n C dX6_whole_29 rfl 1 rfl ?_
          obtain ⟨r30, m30, hc30, h⟩ := fn_bi_s h
          refine pw_callSi (rest := []) C (ct_X6_has l C.2.2.2.2.2.2.2.2 hc30) (va_cwS 2 C.2.2.2.2.1 gX6_whole_X6_has rfl rfl rfl (by decide +kernel) ⟨Nat.le_of_ble_eq_true rfl, Nat.le_of_ble_eq_true rfl⟩) rfl rfl (Nat.le_of_ble_eq_true rfl) dX6_whole_30 ?_
          refine pw_if_eq (tgt := 38) C dX6_whole_33 (by decide) (fun c33 => ?_) (fun c33 => ?_)
          · have h := fn_pos c33 h
            refine pw_aload_n C dX6_whole_38 rfl 0 rfl ?_
            refine pw_bipush (v := (38 : Int32)) C dX6_whole_39 (by decide) ?_
            refine pw_iconst (v := (0 : Int32)) C dX6_whole_41 (by decide) ?_
            obtain ⟨m42, hc42, h⟩ := fn_bv_s h
            refine pw_callVv (rest := []) C (by decide) (pw_sh_54 _) rfl (ct_X6_hourBy l C.2.2.2.2.2.2.2.2 hc42) (cwV 2 C.2.2.2.2.1 gX6_whole_X6_hourBy rfl rfl rfl (by decide +kernel) ⟨Nat.le_of_ble_eq_true rfl, Nat.le_of_ble_eq_true rfl⟩) rfl rfl (Nat.le_of_ble_eq_true rfl) dX6_whole_42 ?_
            refine pw_iinc (v := (v2 + 1)) (lv' := [(2, .int (v2 + 1)), (0, .ref (gad G 54)), (1, .int a1)]) C dX6_whole_45 (q := 2) rfl rfl (by decide) rfl ?_
            refine pw_goto (tgt := 17) C dX6_whole_48 (by decide) ?_
            refine pw_sub [1, 2, 0] rfl ?_
            exact ih _ _ h
          · have h := fn_neg c33 h
            refine pw_iload_n C dX6_whole_36 rfl 2 rfl ?_
            exact pw_iret C h dX6_whole_37
    refine pw_sub [1, 2, 0] rfl ?_
    refine L17 _ (fun m51 h => ?_) _ _ _ h
    refine pw_ldc C k2 dX6_whole_51 ?_
    exact pw_iret C h dX6_whole_53
  · have h := fn_neg c5 h
    refine pw_ldc C k1 dX6_whole_8 ?_
    exact pw_iret C h dX6_whole_10
set_option maxHeartbeats 4000000 in
set_option maxRecDepth 100000 in
theorem ct_X6_leastOf (l : Launch) {G : pw_G} (hG : pw_Ok G) {a1 : Int32}  {μ μ' : pw_Mem} {r : Int32} (h : fn_X6_leastOf a1 μ = some (r, μ')) : Met l yX6_leastOf wsX6_leastOf ({ frames := 1, cells := 0, slots := 0, locals := 21 }) (va_Pc [.ref (gad G 54), .int a1] (pw_Pre G μ)) (va_Qi (fun (r1 : Int32) (u : pw_Mem) => r1 = r ∧ u = μ') (pw_B G) (gA G)) 0 0 (gA G) := by
  refine pw_met (lv := [(0, .ref (gad G 54)), (1, .int a1)]) (own := RX6) (cc := cX6_leastOf) (maxL := 3) (ret := some .int) hG rfl (by decide) rfl rfl (Nat.le_of_ble_eq_true rfl) ?_
  intro p e s m below meth c C
  unfold fn_X6_leastOf at h
  refine pw_iconst (v := (0 : Int32)) C dX6_leastOf_0 (by decide) ?_
  refine pw_istore_n (lv' := [(2, .int (0 : Int32)), (0, .ref (gad G 54)), (1, .int a1)]) C dX6_leastOf_1 rfl (by decide) rfl ?_
  have L2 : ∀ (k : Int32 → pw_Mem → Option (Int32 × pw_Mem)) (hk : ∀ (v2 : Int32) (m1 : pw_Mem), k v2 m1 = some (r, μ') → pw_Go p l e ({ frames := 1, cells := 0, slots := 0, locals := 21 }) s m (([.ref (gad G 54), .int a1] : List Value).toArray) below meth c (MQ below (va_Qi (fun (r1 : Int32) (u : pw_Mem) => r1 = r ∧ u = μ') (pw_B G) (gA G)) (([.ref (gad G 54), .int a1] : List Value).toArray) s 0 0 (gA G)) G 3 16 [(2, .int v2)] [] m1) (n : Nat) (v2 : Int32) (m1 : pw_Mem), fl_X6_leastOf_2 k a1 n v2 m1 = some (r, μ') → pw_Go p l e ({ frames := 1, cells := 0, slots := 0, locals := 21 }) s m (([.ref (gad G 54), .int a1] : List Value).toArray) below meth c (MQ below (va_Qi (fun (r1 : Int32) (u : pw_Mem) => r1 = r ∧ u = μ') (pw_B G) (gA G)) (([.ref (gad G 54), .int a1] : List Value).toArray) s 0 0 (gA G)) G 3 2 [(1, .int a1), (2, .int v2)] [] m1 := by
    intro k hk n
    induction n with
    | zero => intro v2 m1 h; exact nomatch (show (none : Option (Int32 × pw_Mem)) = some _ from h)
    | succ n ih =>
      intro v2 m1 h
      rw [fl_X6_leastOf_2] at h
      refine pw_iload_n C dX6_leastOf_2 rfl 0 rfl ?_
      refine pw_iload_n C dX6_leastOf_3 rfl 1 rfl ?_
      obtain ⟨r4, m4, hc4, h⟩ := fn_bi_s h
      refine pw_callSi (rest := []) C (ct_X6_has l C.2.2.2.2.2.2.2.2 hc4) (va_cwS 2 C.2.2.2.2.1 gX6_leastOf_X6_has rfl rfl rfl (by decide +kernel) ⟨Nat.le_of_ble_eq_true rfl, Nat.le_of_ble_eq_true rfl⟩) rfl rfl (Nat.le_of_ble_eq_true rfl) dX6_leastOf_4 ?_
      refine pw_if_ne (tgt := 16) C dX6_leastOf_7 (by decide) (fun c7 => ?_) (fun c7 => ?_)
      · have h := fn_pos c7 h
        refine pw_sub [1] rfl ?_
        exact hk _ _ h
      · have h := fn_neg c7 h
        refine pw_iinc (v := (v2 + 1)) (lv' := [(2, .int (v2 + 1)), (1, .int a1)]) C dX6_leastOf_10 (q := 1) rfl rfl (by decide) rfl ?_
        refine pw_goto (tgt := 2) C dX6_leastOf_13 (by decide) ?_
        refine pw_sub [1, 0] rfl ?_
        exact ih _ _ h
  refine pw_sub [2, 0] rfl ?_
  refine L2 _ (fun y2_2 m16 h => ?_) _ _ _ h
  refine pw_iload_n C dX6_leastOf_16 rfl 0 rfl ?_
  exact pw_iret C h dX6_leastOf_17
set_option maxHeartbeats 4000000 in
set_option maxRecDepth 100000 in
theorem ct_X6_first (l : Launch) {G : pw_G} (hG : pw_Ok G) {a1 : Int32}  {μ μ' : pw_Mem} {r : Int32} (h : fn_X6_first a1 μ = some (r, μ')) : Met l yX6_first wsX6_first ({ frames := 4, cells := 0, slots := 0, locals := 102 }) (va_Pc [.ref (gad G 54), .int a1] (pw_Pre G μ)) (va_Qi (fun (r1 : Int32) (u : pw_Mem) => r1 = r ∧ u = μ') (pw_B G) (gA G)) 0 0 (gA G) := by
  refine pw_met (lv := [(0, .ref (gad G 54)), (1, .int a1)]) (own := RX6) (cc := cX6_first) (maxL := 4) (ret := some .int) hG rfl (by decide) rfl rfl (Nat.le_of_ble_eq_true rfl) ?_
  intro p e s m below meth c C
  have k1 := C.2.2.2.2.1 (.constant RX6 146 (-1000002)) (List.mem_cons_of_mem _ (List.mem_append_left _ (List.mem_append_left _ (List.mem_of_getElem? (i := 0) rfl))))
  have k2 := C.2.2.2.2.1 (.constant RX6 51 (-1000001)) (List.mem_cons_of_mem _ (List.mem_append_left _ (List.mem_append_left _ (List.mem_of_getElem? (i := 1) rfl))))
  have k3 := C.2.2.2.2.1 (.constant RX6 176 (-1000000)) (List.mem_cons_of_mem _ (List.mem_append_left _ (List.mem_append_left _ (List.mem_of_getElem? (i := 2) rfl))))
  unfold fn_X6_first at h
  refine pw_aload_n C dX6_first_0 rfl 0 rfl ?_
  obtain ⟨r1, m1, hc1, h⟩ := fn_bi_s h
  refine pw_callVi (rest := []) C (by decide) (pw_sh_54 _) rfl (ct_X6_isRoad l C.2.2.2.2.2.2.2.2 hc1) (cwV 0 C.2.2.2.2.1 gX6_first_X6_isRoad rfl rfl rfl (by decide +kernel) ⟨Nat.le_of_ble_eq_true rfl, Nat.le_of_ble_eq_true rfl⟩) rfl rfl (Nat.le_of_ble_eq_true rfl) dX6_first_1 ?_
  refine pw_if_ne (tgt := 10) C dX6_first_4 (by decide) (fun c4 => ?_) (fun c4 => ?_)
  · have h := fn_pos c4 h
    refine pw_iload_n C dX6_first_10 rfl 1 rfl ?_
    refine pw_i2l C dX6_first_11 ?_
    refine pw_lconst (v := (0 : Int64)) C dX6_first_12 (by decide) ?_
    refine pw_lconst (v := (1 : Int64)) C dX6_first_13 (by decide) ?_
    obtain ⟨r14, m14, hc14, h⟩ := fn_bi_s h
    refine pw_callSi (rest := []) C (ct_X6_in l C.2.2.2.2.2.2.2.2 hc14) (va_cwS 3 C.2.2.2.2.1 gX6_first_X6_in rfl rfl rfl (by decide +kernel) ⟨Nat.le_of_ble_eq_true rfl, Nat.le_of_ble_eq_true rfl⟩) rfl rfl (Nat.le_of_ble_eq_true rfl) dX6_first_14 ?_
    refine pw_if_ne (tgt := 23) C dX6_first_17 (by decide) (fun c17 => ?_) (fun c17 => ?_)
    · have h := fn_pos c17 h
      refine pw_aload_n C dX6_first_23 rfl 0 rfl ?_
      obtain ⟨m24, hc24, h⟩ := fn_bv_s h
      refine pw_callVv (rest := []) C (by decide) (pw_sh_54 _) rfl (ct_X6_tries l C.2.2.2.2.2.2.2.2 hc24) (cwV 0 C.2.2.2.2.1 gX6_first_X6_tries rfl rfl rfl (by decide +kernel) ⟨Nat.le_of_ble_eq_true rfl, Nat.le_of_ble_eq_true rfl⟩) rfl rfl (Nat.le_of_ble_eq_true rfl) dX6_first_24 ?_
      refine pw_iconst (v := (0 : Int32)) C dX6_first_27 (by decide) ?_
      refine pw_istore_n (lv' := [(2, .int (0 : Int32)), (0, .ref (gad G 54)), (1, .int a1)]) C dX6_first_28 rfl (by decide) rfl ?_
      have L29 : ∀ (k : pw_Mem → Option (Int32 × pw_Mem)) (hk : ∀  (m1 : pw_Mem), k m1 = some (r, μ') → pw_Go p l e ({ frames := 4, cells := 0, slots := 0, locals := 102 }) s m (([.ref (gad G 54), .int a1] : List Value).toArray) below meth c (MQ below (va_Qi (fun (r1 : Int32) (u : pw_Mem) => r1 = r ∧ u = μ') (pw_B G) (gA G)) (([.ref (gad G 54), .int a1] : List Value).toArray) s 0 0 (gA G)) G 4 73 [] [] m1) (n : Nat) (v2 : Int32) (m1 : pw_Mem), fl_X6_first_29 k a1 n v2 m1 = some (r, μ') → pw_Go p l e ({ frames := 4, cells := 0, slots := 0, locals := 102 }) s m (([.ref (gad G 54), .int a1] : List Value).toArray) below meth c (MQ below (va_Qi (fun (r1 : Int32) (u : pw_Mem) => r1 = r ∧ u = μ') (pw_B G) (gA G)) (([.ref (gad G 54), .int a1] : List Value).toArray) s 0 0 (gA G)) G 4 29 [(0, .ref (gad G 54)), (1, .int a1), (2, .int v2)] [] m1 := by
        intro k hk n
        induction n with
        | zero => intro v2 m1 h; exact nomatch (show (none : Option (Int32 × pw_Mem)) = some _ from h)
        | succ n ih =>
          intro v2 m1 h
          rw [fl_X6_first_29] at h
          refine pw_iload_n C dX6_first_29 rfl 2 rfl ?_
          refine pw_bipush (v := (60 : Int32)) C dX6_first_30 (by decide) ?_
          refine pw_icmp_gt (tgt := 73) C dX6_first_32 (by decide) (fun c32 => ?_) (fun c32 => ?_)
          · have h := fn_pos c32 h
            refine pw_sub [] rfl ?_
            exact hk _ h
          · have h := fn_neg c32 h
            refine pw_aload_n C dX6_first_35 rfl 0 rfl ?_
            refine pw_bipush (v := (38 : Int32)) C dX6_first_36 (by decide) ?_
            obtain ⟨r38, m38, hc38, h⟩ := fn_bi_s h
            refine pw_callVi (rest := []) C (by decide) (pw_sh_54 _) rfl (ct_X6_wholeOnes l C.2.2.2.2.2.2.2.2 hc38) (cwV 1 C.2.2.2.2.1 gX6_first_X6_wholeOnes rfl rfl rfl (by decide +kernel) ⟨Nat.le_of_ble_eq_true rfl, Nat.le_of_ble_eq_true rfl⟩) rfl rfl (Nat.le_of_ble_eq_true rfl) dX6_first_38 ?_
            refine pw_istore_n (lv' := [(3, .int r38), (0, .ref (gad G 54)), (1, .int a1), (2, .int v2)]) C dX6_first_41 rfl (by decide) rfl ?_
            refine pw_iload_n C dX6_first_42 rfl 0 rfl ?_
            refine pw_if_le (tgt := 60) C dX6_first_43 (by decide) (fun c43 => ?_) (fun c43 => ?_)
            · have h := fn_pos c43 h
              refine pw_aload_n C dX6_first_60 rfl 1 rfl ?_
              refine pw_bipush (v := (38 : Int32)) C dX6_first_61 (by decide) ?_
              refine pw_iconst (v := (0 : Int32)) C dX6_first_63 (by decide) ?_
              obtain ⟨m64, hc64, h⟩ := fn_bv_s h
              refine pw_callVv (rest := []) C (by decide) (pw_sh_54 _) rfl (ct_X6_hourBy l C.2.2.2.2.2.2.2.2 hc64) (cwV 2 C.2.2.2.2.1 gX6_first_X6_hourBy rfl rfl rfl (by decide +kernel) ⟨Nat.le_of_ble_eq_true rfl, Nat.le_of_ble_eq_true rfl⟩) rfl rfl (Nat.le_of_ble_eq_true rfl) dX6_first_64 ?_
              refine pw_iinc (v := (v2 + 1)) (lv' := [(2, .int (v2 + 1)), (3, .int r38), (0, .ref (gad G 54)), (1, .int a1)]) C dX6_first_67 (q := 3) rfl rfl (by decide) rfl ?_
              refine pw_goto (tgt := 29) C dX6_first_70 (by decide) ?_
              refine pw_sub [2, 3, 0] rfl ?_
              exact ih _ _ h
            · have h := fn_neg c43 h
              refine pw_iload_n C dX6_first_46 rfl 2 rfl ?_
              refine pw_if_ne (tgt := 58) C dX6_first_47 (by decide) (fun c47 => ?_) (fun c47 => ?_)
              · have h := fn_pos c47 h
                refine pw_iload_n C dX6_first_58 rfl 3 rfl ?_
                exact pw_iret C h dX6_first_59
              · have h := fn_neg c47 h
                refine pw_aload_n C dX6_first_50 rfl 1 rfl ?_
                refine pw_iload_n C dX6_first_51 rfl 0 rfl ?_
                obtain ⟨r52, m52, hc52, h⟩ := fn_bi_s h
                refine pw_callVi (rest := []) C (by decide) (pw_sh_54 _) rfl (ct_X6_leastOf l C.2.2.2.2.2.2.2.2 hc52) (cwV 1 C.2.2.2.2.1 gX6_first_X6_leastOf rfl rfl rfl (by decide +kernel) ⟨Nat.le_of_ble_eq_true rfl, Nat.le_of_ble_eq_true rfl⟩) rfl rfl (Nat.le_of_ble_eq_true rfl) dX6_first_52 ?_
                refine pw_goto (tgt := 59) C dX6_first_55 (by decide) ?_
                exact pw_iret C h dX6_first_59
      refine pw_sub [1, 2, 0] rfl ?_
      refine L29 _ (fun m73 h => ?_) _ _ _ h
      refine pw_ldc C k3 dX6_first_73 ?_
      exact pw_iret C h dX6_first_75
    · have h := fn_neg c17 h
      refine pw_ldc C k2 dX6_first_20 ?_
      exact pw_iret C h dX6_first_22
  · have h := fn_neg c4 h
    refine pw_ldc C k1 dX6_first_7 ?_
    exact pw_iret C h dX6_first_9
set_option maxHeartbeats 4000000 in
set_option maxRecDepth 100000 in
theorem ct_X6_left (l : Launch) {G : pw_G} (hG : pw_Ok G) {a1 : Int32}  {μ μ' : pw_Mem} {r : Int32} (h : fn_X6_left a1 μ = some (r, μ')) : Met l yX6_left wsX6_left ({ frames := 5, cells := 0, slots := 0, locals := 124 }) (va_Pc [.ref (gad G 54), .int a1] (pw_Pre G μ)) (va_Qi (fun (r1 : Int32) (u : pw_Mem) => r1 = r ∧ u = μ') (pw_B G) (gA G)) 0 0 (gA G) := by
  refine pw_met (lv := [(0, .ref (gad G 54)), (1, .int a1)]) (own := RX6) (cc := cX6_left) (maxL := 4) (ret := some .int) hG rfl (by decide) rfl rfl (Nat.le_of_ble_eq_true rfl) ?_
  intro p e s m below meth c C
  have iX6 : ∀ w ∈ u_ws RX6 TX6 16, w ∈ wsX6_left := fun _ h => List.mem_cons_of_mem _ (List.mem_append_right _ (h))
  have k1 := C.2.2.2.2.1 (.constant RX6 146 (-1000002)) (List.mem_cons_of_mem _ (List.mem_append_left _ (List.mem_append_left _ (List.mem_of_getElem? (i := 0) rfl))))
  have k2 := C.2.2.2.2.1 (.constantLong RX6 167 (60)) (List.mem_cons_of_mem _ (List.mem_append_left _ (List.mem_append_left _ (List.mem_of_getElem? (i := 1) rfl))))
  have k3 := C.2.2.2.2.1 (.constant RX6 51 (-1000001)) (List.mem_cons_of_mem _ (List.mem_append_left _ (List.mem_append_left _ (List.mem_of_getElem? (i := 2) rfl))))
  have k4 := C.2.2.2.2.1 (.fieldLink RX6 7 "PulpitRoadsModel" "w" "[I") (List.mem_cons_of_mem _ (List.mem_append_left _ (List.mem_append_left _ (List.mem_of_getElem? (i := 3) rfl))))
  unfold fn_X6_left at h
  refine pw_aload_n C dX6_left_0 rfl 0 rfl ?_
  obtain ⟨r1, m1, hc1, h⟩ := fn_bi_s h
  refine pw_callVi (rest := []) C (by decide) (pw_sh_54 _) rfl (ct_X6_isRoad l C.2.2.2.2.2.2.2.2 hc1) (cwV 0 C.2.2.2.2.1 gX6_left_X6_isRoad rfl rfl rfl (by decide +kernel) ⟨Nat.le_of_ble_eq_true rfl, Nat.le_of_ble_eq_true rfl⟩) rfl rfl (Nat.le_of_ble_eq_true rfl) dX6_left_1 ?_
  refine pw_if_ne (tgt := 10) C dX6_left_4 (by decide) (fun c4 => ?_) (fun c4 => ?_)
  · have h := fn_pos c4 h
    refine pw_iload_n C dX6_left_10 rfl 1 rfl ?_
    refine pw_i2l C dX6_left_11 ?_
    refine pw_lconst (v := (0 : Int64)) C dX6_left_12 (by decide) ?_
    refine pw_ldc2 C k2 dX6_left_13 ?_
    obtain ⟨r16, m16, hc16, h⟩ := fn_bi_s h
    refine pw_callSi (rest := []) C (ct_X6_in l C.2.2.2.2.2.2.2.2 hc16) (va_cwS 3 C.2.2.2.2.1 gX6_left_X6_in rfl rfl rfl (by decide +kernel) ⟨Nat.le_of_ble_eq_true rfl, Nat.le_of_ble_eq_true rfl⟩) rfl rfl (Nat.le_of_ble_eq_true rfl) dX6_left_16 ?_
    refine pw_if_ne (tgt := 25) C dX6_left_19 (by decide) (fun c19 => ?_) (fun c19 => ?_)
    · have h := fn_pos c19 h
      refine pw_aload_n C dX6_left_25 rfl 0 rfl ?_
      obtain ⟨m26, hc26, h⟩ := fn_bv_s h
      refine pw_callVv (rest := []) C (by decide) (pw_sh_54 _) rfl (ct_X6_tries l C.2.2.2.2.2.2.2.2 hc26) (cwV 0 C.2.2.2.2.1 gX6_left_X6_tries rfl rfl rfl (by decide +kernel) ⟨Nat.le_of_ble_eq_true rfl, Nat.le_of_ble_eq_true rfl⟩) rfl rfl (Nat.le_of_ble_eq_true rfl) dX6_left_26 ?_
      refine pw_aload_n C dX6_left_29 rfl 0 rfl ?_
      refine pw_iload_n C dX6_left_30 rfl 1 rfl ?_
      obtain ⟨m31, hc31, h⟩ := fn_bv_s h
      refine pw_callVv (rest := []) C (by decide) (pw_sh_54 _) rfl (ct_X6_goesOn l C.2.2.2.2.2.2.2.2 hc31) (cwV 1 C.2.2.2.2.1 gX6_left_X6_goesOn rfl rfl rfl (by decide +kernel) ⟨Nat.le_of_ble_eq_true rfl, Nat.le_of_ble_eq_true rfl⟩) rfl rfl (Nat.le_of_ble_eq_true rfl) dX6_left_31 ?_
      refine pw_aload_n C dX6_left_34 rfl 0 rfl ?_
      refine pw_iconst (v := (0 : Int32)) C dX6_left_35 (by decide) ?_
      obtain ⟨r36, m36, hc36, h⟩ := fn_bi_s h
      refine pw_callVi (rest := []) C (by decide) (pw_sh_54 _) rfl (ct_X6_all l C.2.2.2.2.2.2.2.2 hc36) (cwV 1 C.2.2.2.2.1 gX6_left_X6_all rfl rfl rfl (by decide +kernel) ⟨Nat.le_of_ble_eq_true rfl, Nat.le_of_ble_eq_true rfl⟩) rfl rfl (Nat.le_of_ble_eq_true rfl) dX6_left_36 ?_
      refine pw_istore_n (lv' := [(2, .int r36), (0, .ref (gad G 54)), (1, .int a1)]) C dX6_left_39 rfl (by decide) rfl ?_
      refine pw_iconst (v := (0 : Int32)) C dX6_left_40 (by decide) ?_
      refine pw_istore_n (lv' := [(3, .int (0 : Int32)), (2, .int r36), (0, .ref (gad G 54)), (1, .int a1)]) C dX6_left_41 rfl (by decide) rfl ?_
      have L42 : ∀ (k : Int32 → pw_Mem → Option (Int32 × pw_Mem)) (hk : ∀ (v2 : Int32) (m1 : pw_Mem), k v2 m1 = some (r, μ') → pw_Go p l e ({ frames := 5, cells := 0, slots := 0, locals := 124 }) s m (([.ref (gad G 54), .int a1] : List Value).toArray) below meth c (MQ below (va_Qi (fun (r1 : Int32) (u : pw_Mem) => r1 = r ∧ u = μ') (pw_B G) (gA G)) (([.ref (gad G 54), .int a1] : List Value).toArray) s 0 0 (gA G)) G 4 72 [(2, .int v2)] [] m1) (n : Nat) (v2 : Int32) (v3 : Int32) (m1 : pw_Mem), fl_X6_left_42 k  n v2 v3 m1 = some (r, μ') → pw_Go p l e ({ frames := 5, cells := 0, slots := 0, locals := 124 }) s m (([.ref (gad G 54), .int a1] : List Value).toArray) below meth c (MQ below (va_Qi (fun (r1 : Int32) (u : pw_Mem) => r1 = r ∧ u = μ') (pw_B G) (gA G)) (([.ref (gad G 54), .int a1] : List Value).toArray) s 0 0 (gA G)) G 4 42 [(0, .ref (gad G 54)), (2, .int v2), (3, .int v3)] [] m1 := by
        intro k hk n
        induction n with
        | zero => intro v2 v3 m1 h; exact nomatch (show (none : Option (Int32 × pw_Mem)) = some _ from h)
        | succ n ih =>
          intro v2 v3 m1 h
          rw [fl_X6_left_42] at h
          refine pw_iload_n C dX6_left_42 rfl 2 rfl ?_
          refine pw_aload_n C dX6_left_43 rfl 0 rfl ?_
          refine pw_get (v := .ref (gad G 55)) C iX6 (by decide) (pw_sh_54 _) rfl 0 (by decide) k4 rfl dX6_left_44 ?_
          refine pw_iconst (v := (0 : Int32)) C dX6_left_47 (by decide) ?_
          obtain ⟨hi48, h⟩ := fn_ix_s h
          refine pw_iald C (by decide) (pw_sh_55 _) hi48 dX6_left_48 ?_
          refine pw_icmp_ge (tgt := 72) C dX6_left_49 (by decide) (fun c49 => ?_) (fun c49 => ?_)
          · have h := fn_pos c49 h
            refine pw_sub [1] rfl ?_
            exact hk _ _ h
          · have h := fn_neg c49 h
            refine pw_iload_n C dX6_left_52 rfl 1 rfl ?_
            refine pw_aload_n C dX6_left_53 rfl 0 rfl ?_
            refine pw_get (v := .ref (gad G 55)) C iX6 (by decide) (pw_sh_54 _) rfl 0 (by decide) k4 rfl dX6_left_54 ?_
            refine pw_bipush (v := (67 : Int32)) C dX6_left_57 (by decide) ?_
            refine pw_iload_n C dX6_left_59 rfl 2 rfl ?_
            refine pw_iadd C dX6_left_60 ?_
            obtain ⟨hi61, h⟩ := fn_ix_s h
            refine pw_iald C (by decide) (pw_sh_55 _) hi61 dX6_left_61 ?_
            refine pw_iconst (v := (-1 : Int32)) C dX6_left_62 (by decide) ?_
            refine pw_ixor C dX6_left_63 ?_
            refine pw_iand C dX6_left_64 ?_
            refine pw_istore_n (lv' := [(2, .int (v2 &&& ((m1 55 (((67 : Int32) + v3)).toNatClampNeg) ^^^ (-1 : Int32)))), (0, .ref (gad G 54)), (3, .int v3)]) C dX6_left_65 rfl (by decide) rfl ?_
            refine pw_iinc (v := (v3 + 1)) (lv' := [(3, .int (v3 + 1)), (2, .int (v2 &&& ((m1 55 (((67 : Int32) + v3)).toNatClampNeg) ^^^ (-1 : Int32)))), (0, .ref (gad G 54))]) C dX6_left_66 (q := 2) rfl rfl (by decide) rfl ?_
            refine pw_goto (tgt := 42) C dX6_left_69 (by decide) ?_
            refine pw_sub [2, 1, 0] rfl ?_
            exact ih _ _ _ h
      refine pw_sub [2, 1, 0] rfl ?_
      refine L42 _ (fun y42_2 m72 h => ?_) _ _ _ _ h
      refine pw_iload_n C dX6_left_72 rfl 0 rfl ?_
      exact pw_iret C h dX6_left_73
    · have h := fn_neg c19 h
      refine pw_ldc C k3 dX6_left_22 ?_
      exact pw_iret C h dX6_left_24
  · have h := fn_neg c4 h
    refine pw_ldc C k1 dX6_left_7 ?_
    exact pw_iret C h dX6_left_9
set_option maxHeartbeats 4000000 in
set_option maxRecDepth 100000 in
theorem ct_X6_meet (l : Launch) {G : pw_G} (hG : pw_Ok G) {a1 : Int32} {a2 : Int32}  {μ μ' : pw_Mem} {r : Int32} (h : fn_X6_meet a1 a2 μ = some (r, μ')) : Met l yX6_meet wsX6_meet ({ frames := 4, cells := 0, slots := 0, locals := 102 }) (va_Pc [.ref (gad G 54), .int a1, .int a2] (pw_Pre G μ)) (va_Qi (fun (r1 : Int32) (u : pw_Mem) => r1 = r ∧ u = μ') (pw_B G) (gA G)) 0 0 (gA G) := by
  refine pw_met (lv := [(0, .ref (gad G 54)), (1, .int a1), (2, .int a2)]) (own := RX6) (cc := cX6_meet) (maxL := 4) (ret := some .int) hG rfl (by decide) rfl rfl (Nat.le_of_ble_eq_true rfl) ?_
  intro p e s m below meth c C
  have iX6 : ∀ w ∈ u_ws RX6 TX6 16, w ∈ wsX6_meet := fun _ h => List.mem_cons_of_mem _ (List.mem_append_right _ (h))
  have k1 := C.2.2.2.2.1 (.constant RX6 51 (-1000001)) (List.mem_cons_of_mem _ (List.mem_append_left _ (List.mem_append_left _ (List.mem_of_getElem? (i := 0) rfl))))
  have k2 := C.2.2.2.2.1 (.fieldLink RX6 7 "PulpitRoadsModel" "w" "[I") (List.mem_cons_of_mem _ (List.mem_append_left _ (List.mem_append_left _ (List.mem_of_getElem? (i := 1) rfl))))
  have k3 := C.2.2.2.2.1 (.constant RX6 176 (-1000000)) (List.mem_cons_of_mem _ (List.mem_append_left _ (List.mem_append_left _ (List.mem_of_getElem? (i := 2) rfl))))
  unfold fn_X6_meet at h
  refine pw_aload_n C dX6_meet_0 rfl 0 rfl ?_
  refine pw_iload_n C dX6_meet_1 rfl 1 rfl ?_
  obtain ⟨r2, m2, hc2, h⟩ := fn_bi_s h
  refine pw_callVi (rest := []) C (by decide) (pw_sh_54 _) rfl (ct_X6_isPulpit l C.2.2.2.2.2.2.2.2 hc2) (cwV 1 C.2.2.2.2.1 gX6_meet_X6_isPulpit rfl rfl rfl (by decide +kernel) ⟨Nat.le_of_ble_eq_true rfl, Nat.le_of_ble_eq_true rfl⟩) rfl rfl (Nat.le_of_ble_eq_true rfl) dX6_meet_2 ?_
  refine pw_if_eq (tgt := 21) C dX6_meet_5 (by decide) (fun c5 => ?_) (fun c5 => ?_)
  · have h := fn_pos c5 h
    refine pw_ldc C k1 dX6_meet_21 ?_
    exact pw_iret C h dX6_meet_23
  · have h := fn_neg c5 h
    refine pw_aload_n C dX6_meet_8 rfl 0 rfl ?_
    refine pw_iload_n C dX6_meet_9 rfl 2 rfl ?_
    obtain ⟨r10, m10, hc10, h⟩ := fn_bi_s h
    refine pw_callVi (rest := []) C (by decide) (pw_sh_54 _) rfl (ct_X6_isPulpit l C.2.2.2.2.2.2.2.2 hc10) (cwV 1 C.2.2.2.2.1 gX6_meet_X6_isPulpit rfl rfl rfl (by decide +kernel) ⟨Nat.le_of_ble_eq_true rfl, Nat.le_of_ble_eq_true rfl⟩) rfl rfl (Nat.le_of_ble_eq_true rfl) dX6_meet_10 ?_
    refine pw_if_eq (tgt := 21) C dX6_meet_13 (by decide) (fun c13 => ?_) (fun c13 => ?_)
    · have h := fn_pos c13 h
      refine pw_ldc C k1 dX6_meet_21 ?_
      exact pw_iret C h dX6_meet_23
    · have h := fn_neg c13 h
      refine pw_iload_n C dX6_meet_16 rfl 1 rfl ?_
      refine pw_iload_n C dX6_meet_17 rfl 2 rfl ?_
      refine pw_icmp_ne (tgt := 24) C dX6_meet_18 (by decide) (fun c18 => ?_) (fun c18 => ?_)
      · have h := fn_pos c18 h
        refine pw_aload_n C dX6_meet_24 rfl 0 rfl ?_
        obtain ⟨m25, hc25, h⟩ := fn_bv_s h
        refine pw_callVv (rest := []) C (by decide) (pw_sh_54 _) rfl (ct_X6_tries l C.2.2.2.2.2.2.2.2 hc25) (cwV 0 C.2.2.2.2.1 gX6_meet_X6_tries rfl rfl rfl (by decide +kernel) ⟨Nat.le_of_ble_eq_true rfl, Nat.le_of_ble_eq_true rfl⟩) rfl rfl (Nat.le_of_ble_eq_true rfl) dX6_meet_25 ?_
        refine pw_iconst (v := (0 : Int32)) C dX6_meet_28 (by decide) ?_
        refine pw_istore_n (lv' := [(3, .int (0 : Int32)), (0, .ref (gad G 54)), (1, .int a1), (2, .int a2)]) C dX6_meet_29 rfl (by decide) rfl ?_
        have L30 : ∀ (k : pw_Mem → Option (Int32 × pw_Mem)) (hk : ∀  (m1 : pw_Mem), k m1 = some (r, μ') → pw_Go p l e ({ frames := 4, cells := 0, slots := 0, locals := 102 }) s m (([.ref (gad G 54), .int a1, .int a2] : List Value).toArray) below meth c (MQ below (va_Qi (fun (r1 : Int32) (u : pw_Mem) => r1 = r ∧ u = μ') (pw_B G) (gA G)) (([.ref (gad G 54), .int a1, .int a2] : List Value).toArray) s 0 0 (gA G)) G 4 72 [] [] m1) (n : Nat) (v3 : Int32) (m1 : pw_Mem), fl_X6_meet_30 k a1 a2 n v3 m1 = some (r, μ') → pw_Go p l e ({ frames := 4, cells := 0, slots := 0, locals := 102 }) s m (([.ref (gad G 54), .int a1, .int a2] : List Value).toArray) below meth c (MQ below (va_Qi (fun (r1 : Int32) (u : pw_Mem) => r1 = r ∧ u = μ') (pw_B G) (gA G)) (([.ref (gad G 54), .int a1, .int a2] : List Value).toArray) s 0 0 (gA G)) G 4 30 [(0, .ref (gad G 54)), (1, .int a1), (2, .int a2), (3, .int v3)] [] m1 := by
          intro k hk n
          induction n with
          | zero => intro v3 m1 h; exact nomatch (show (none : Option (Int32 × pw_Mem)) = some _ from h)
          | succ n ih =>
            intro v3 m1 h
            rw [fl_X6_meet_30] at h
            refine pw_iload_n C dX6_meet_30 rfl 3 rfl ?_
            refine pw_bipush (v := (60 : Int32)) C dX6_meet_31 (by decide) ?_
            refine pw_icmp_gt (tgt := 72) C dX6_meet_33 (by decide) (fun c33 => ?_) (fun c33 => ?_)
            · have h := fn_pos c33 h
              refine pw_sub [] rfl ?_
              exact hk _ h
            · have h := fn_neg c33 h
              refine pw_aload_n C dX6_meet_36 rfl 0 rfl ?_
              refine pw_get (v := .ref (gad G 55)) C iX6 (by decide) (pw_sh_54 _) rfl 0 (by decide) k2 rfl dX6_meet_37 ?_
              refine pw_bipush (v := (57 : Int32)) C dX6_meet_40 (by decide) ?_
              refine pw_iload_n C dX6_meet_42 rfl 1 rfl ?_
              refine pw_iadd C dX6_meet_43 ?_
              obtain ⟨hi44, h⟩ := fn_ix_s h
              refine pw_iald C (by decide) (pw_sh_55 _) hi44 dX6_meet_44 ?_
              refine pw_aload_n C dX6_meet_45 rfl 0 rfl ?_
              refine pw_get (v := .ref (gad G 55)) C iX6 (by decide) (pw_sh_54 _) rfl 0 (by decide) k2 rfl dX6_meet_46 ?_
              refine pw_bipush (v := (57 : Int32)) C dX6_meet_49 (by decide) ?_
              refine pw_iload_n C dX6_meet_51 rfl 2 rfl ?_
              refine pw_iadd C dX6_meet_52 ?_
              obtain ⟨hi53, h⟩ := fn_ix_s h
              refine pw_iald C (by decide) (pw_sh_55 _) hi53 dX6_meet_53 ?_
              refine pw_icmp_ne (tgt := 59) C dX6_meet_54 (by decide) (fun c54 => ?_) (fun c54 => ?_)
              · have h := fn_pos c54 h
                refine pw_aload_n C dX6_meet_59 rfl 0 rfl ?_
                refine pw_bipush (v := (38 : Int32)) C dX6_meet_60 (by decide) ?_
                refine pw_iconst (v := (0 : Int32)) C dX6_meet_62 (by decide) ?_
                obtain ⟨m63, hc63, h⟩ := fn_bv_s h
                refine pw_callVv (rest := []) C (by decide) (pw_sh_54 _) rfl (ct_X6_hourBy l C.2.2.2.2.2.2.2.2 hc63) (cwV 2 C.2.2.2.2.1 gX6_meet_X6_hourBy rfl rfl rfl (by decide +kernel) ⟨Nat.le_of_ble_eq_true rfl, Nat.le_of_ble_eq_true rfl⟩) rfl rfl (Nat.le_of_ble_eq_true rfl) dX6_meet_63 ?_
                refine pw_iinc (v := (v3 + 1)) (lv' := [(3, .int (v3 + 1)), (0, .ref (gad G 54)), (1, .int a1), (2, .int a2)]) C dX6_meet_66 (q := 3) rfl rfl (by decide) rfl ?_
                refine pw_goto (tgt := 30) C dX6_meet_69 (by decide) ?_
                refine pw_sub [1, 2, 3, 0] rfl ?_
                exact ih _ _ h
              · have h := fn_neg c54 h
                refine pw_iload_n C dX6_meet_57 rfl 3 rfl ?_
                exact pw_iret C h dX6_meet_58
        refine pw_sub [1, 2, 3, 0] rfl ?_
        refine L30 _ (fun m72 h => ?_) _ _ _ h
        refine pw_ldc C k3 dX6_meet_72 ?_
        exact pw_iret C h dX6_meet_74
      · have h := fn_neg c18 h
        refine pw_ldc C k1 dX6_meet_21 ?_
        exact pw_iret C h dX6_meet_23
set_option maxHeartbeats 4000000 in
set_option maxRecDepth 100000 in
theorem ct_X6_round (l : Launch) {G : pw_G} (hG : pw_Ok G)   {μ μ' : pw_Mem} {r : Int32} (h : fn_X6_round μ = some (r, μ')) : Met l yX6_round wsX6_round ({ frames := 4, cells := 0, slots := 0, locals := 102 }) (va_Pc [.ref (gad G 54)] (pw_Pre G μ)) (va_Qi (fun (r1 : Int32) (u : pw_Mem) => r1 = r ∧ u = μ') (pw_B G) (gA G)) 0 0 (gA G) := by
  refine pw_met (lv := [(0, .ref (gad G 54))]) (own := RX6) (cc := cX6_round) (maxL := 4) (ret := some .int) hG rfl (by decide) rfl rfl (Nat.le_of_ble_eq_true rfl) ?_
  intro p e s m below meth c C
  have iX6 : ∀ w ∈ u_ws RX6 TX6 16, w ∈ wsX6_round := fun _ h => List.mem_cons_of_mem _ (List.mem_append_right _ (h))
  have k1 := C.2.2.2.2.1 (.constant RX6 146 (-1000002)) (List.mem_cons_of_mem _ (List.mem_append_left _ (List.mem_append_left _ (List.mem_of_getElem? (i := 0) rfl))))
  have k2 := C.2.2.2.2.1 (.fieldLink RX6 7 "PulpitRoadsModel" "w" "[I") (List.mem_cons_of_mem _ (List.mem_append_left _ (List.mem_append_left _ (List.mem_of_getElem? (i := 1) rfl))))
  have k3 := C.2.2.2.2.1 (.constant RX6 176 (-1000000)) (List.mem_cons_of_mem _ (List.mem_append_left _ (List.mem_append_left _ (List.mem_of_getElem? (i := 2) rfl))))
  unfold fn_X6_round at h
  refine pw_aload_n C dX6_round_0 rfl 0 rfl ?_
  obtain ⟨r1, m1, hc1, h⟩ := fn_bi_s h
  refine pw_callVi (rest := []) C (by decide) (pw_sh_54 _) rfl (ct_X6_isRoad l C.2.2.2.2.2.2.2.2 hc1) (cwV 0 C.2.2.2.2.1 gX6_round_X6_isRoad rfl rfl rfl (by decide +kernel) ⟨Nat.le_of_ble_eq_true rfl, Nat.le_of_ble_eq_true rfl⟩) rfl rfl (Nat.le_of_ble_eq_true rfl) dX6_round_1 ?_
  refine pw_if_ne (tgt := 10) C dX6_round_4 (by decide) (fun c4 => ?_) (fun c4 => ?_)
  · have h := fn_pos c4 h
    refine pw_aload_n C dX6_round_10 rfl 0 rfl ?_
    obtain ⟨m11, hc11, h⟩ := fn_bv_s h
    refine pw_callVv (rest := []) C (by decide) (pw_sh_54 _) rfl (ct_X6_tries l C.2.2.2.2.2.2.2.2 hc11) (cwV 0 C.2.2.2.2.1 gX6_round_X6_tries rfl rfl rfl (by decide +kernel) ⟨Nat.le_of_ble_eq_true rfl, Nat.le_of_ble_eq_true rfl⟩) rfl rfl (Nat.le_of_ble_eq_true rfl) dX6_round_11 ?_
    refine pw_iconst (v := (1 : Int32)) C dX6_round_14 (by decide) ?_
    refine pw_istore_n (lv' := [(1, .int (1 : Int32)), (0, .ref (gad G 54))]) C dX6_round_15 rfl (by decide) rfl ?_
    have L16 : ∀ (k : pw_Mem → Option (Int32 × pw_Mem)) (hk : ∀  (m1 : pw_Mem), k m1 = some (r, μ') → pw_Go p l e ({ frames := 4, cells := 0, slots := 0, locals := 102 }) s m (([.ref (gad G 54)] : List Value).toArray) below meth c (MQ below (va_Qi (fun (r1 : Int32) (u : pw_Mem) => r1 = r ∧ u = μ') (pw_B G) (gA G)) (([.ref (gad G 54)] : List Value).toArray) s 0 0 (gA G)) G 4 89 [] [] m1) (n : Nat) (v1 : Int32) (m1 : pw_Mem), fl_X6_round_16 k  n v1 m1 = some (r, μ') → pw_Go p l e ({ frames := 4, cells := 0, slots := 0, locals := 102 }) s m (([.ref (gad G 54)] : List Value).toArray) below meth c (MQ below (va_Qi (fun (r1 : Int32) (u : pw_Mem) => r1 = r ∧ u = μ') (pw_B G) (gA G)) (([.ref (gad G 54)] : List Value).toArray) s 0 0 (gA G)) G 4 16 [(0, .ref (gad G 54)), (1, .int v1)] [] m1 := by
      intro k hk n
      induction n with
      | zero => intro v1 m1 h; exact nomatch (show (none : Option (Int32 × pw_Mem)) = some _ from h)
      | succ n ih =>
        intro v1 m1 h
        rw [fl_X6_round_16] at h
        refine pw_iload_n C dX6_round_16 rfl 1 rfl ?_
        refine pw_sipush (v := (200 : Int32)) C dX6_round_17 (by decide) ?_
        refine pw_icmp_gt (tgt := 89) C dX6_round_20 (by decide) (fun c20 => ?_) (fun c20 => ?_)
        · have h := fn_pos c20 h
          refine pw_sub [] rfl ?_
          exact hk _ h
        · have h := fn_neg c20 h
          refine pw_aload_n C dX6_round_23 rfl 0 rfl ?_
          refine pw_bipush (v := (38 : Int32)) C dX6_round_24 (by decide) ?_
          refine pw_iconst (v := (0 : Int32)) C dX6_round_26 (by decide) ?_
          obtain ⟨m27, hc27, h⟩ := fn_bv_s h
          refine pw_callVv (rest := []) C (by decide) (pw_sh_54 _) rfl (ct_X6_hourBy l C.2.2.2.2.2.2.2.2 hc27) (cwV 2 C.2.2.2.2.1 gX6_round_X6_hourBy rfl rfl rfl (by decide +kernel) ⟨Nat.le_of_ble_eq_true rfl, Nat.le_of_ble_eq_true rfl⟩) rfl rfl (Nat.le_of_ble_eq_true rfl) dX6_round_27 ?_
          refine pw_iconst (v := (1 : Int32)) C dX6_round_30 (by decide) ?_
          refine pw_istore_n (lv' := [(2, .int (1 : Int32)), (0, .ref (gad G 54)), (1, .int v1)]) C dX6_round_31 rfl (by decide) rfl ?_
          refine pw_iconst (v := (0 : Int32)) C dX6_round_32 (by decide) ?_
          refine pw_istore_n (lv' := [(3, .int (0 : Int32)), (2, .int (1 : Int32)), (0, .ref (gad G 54)), (1, .int v1)]) C dX6_round_33 rfl (by decide) rfl ?_
          have L34 : ∀ (k : Int32 → pw_Mem → Option (Int32 × pw_Mem)) (hk : ∀ (v2 : Int32) (m1 : pw_Mem), k v2 m1 = some (r, μ') → pw_Go p l e ({ frames := 4, cells := 0, slots := 0, locals := 102 }) s m (([.ref (gad G 54)] : List Value).toArray) below meth c (MQ below (va_Qi (fun (r1 : Int32) (u : pw_Mem) => r1 = r ∧ u = μ') (pw_B G) (gA G)) (([.ref (gad G 54)] : List Value).toArray) s 0 0 (gA G)) G 4 77 [(0, .ref (gad G 54)), (1, .int v1), (2, .int v2)] [] m1) (n : Nat) (v2 : Int32) (v3 : Int32) (m1 : pw_Mem), fl_X6_round_34 k v1 n v2 v3 m1 = some (r, μ') → pw_Go p l e ({ frames := 4, cells := 0, slots := 0, locals := 102 }) s m (([.ref (gad G 54)] : List Value).toArray) below meth c (MQ below (va_Qi (fun (r1 : Int32) (u : pw_Mem) => r1 = r ∧ u = μ') (pw_B G) (gA G)) (([.ref (gad G 54)] : List Value).toArray) s 0 0 (gA G)) G 4 34 [(0, .ref (gad G 54)), (1, .int v1), (2, .int v2), (3, .int v3)] [] m1 := by
            intro k hk n
            induction n with
            | zero => intro v2 v3 m1 h; exact nomatch (show (none : Option (Int32 × pw_Mem)) = some _ from h)
            | succ n ih =>
              intro v2 v3 m1 h
              rw [fl_X6_round_34] at h
              refine pw_iload_n C dX6_round_34 rfl 3 rfl ?_
              refine pw_bipush (v := (10 : Int32)) C dX6_round_35 (by decide) ?_
              refine pw_icmp_ge (tgt := 77) C dX6_round_37 (by decide) (fun c37 => ?_) (fun c37 => ?_)
              · have h := fn_pos c37 h
                refine pw_sub [0, 1, 2] rfl ?_
                exact hk _ _ h
              · have h := fn_neg c37 h
                refine pw_iload_n C dX6_round_40 rfl 2 rfl ?_
                refine fn_jn1_s (fun x70_0 m70 => pw_Go p l e ({ frames := 4, cells := 0, slots := 0, locals := 102 }) s m (([.ref (gad G 54)] : List Value).toArray) below meth c (MQ below (va_Qi (fun (r1 : Int32) (u : pw_Mem) => r1 = r ∧ u = μ') (pw_B G) (gA G)) (([.ref (gad G 54)] : List Value).toArray) s 0 0 (gA G)) G 4 70 [(0, .ref (gad G 54)), (1, .int v1), (3, .int v3)] [.int x70_0] m70) h (fun x70_0 m70 h => ?_) (fun k70 hk70 h => ?_)
                · refine pw_istore_n (lv' := [(2, .int x70_0), (0, .ref (gad G 54)), (1, .int v1), (3, .int v3)]) C dX6_round_70 rfl (by decide) rfl ?_
                  refine pw_iinc (v := (v3 + 1)) (lv' := [(3, .int (v3 + 1)), (2, .int x70_0), (0, .ref (gad G 54)), (1, .int v1)]) C dX6_round_71 (q := 3) rfl rfl (by decide) rfl ?_
                  refine pw_goto (tgt := 34) C dX6_round_74 (by decide) ?_
                  refine pw_sub [2, 3, 1, 0] rfl ?_
                  exact ih _ _ _ h
                · refine fn_jn0_s (fun m69 => pw_Go p l e ({ frames := 4, cells := 0, slots := 0, locals := 102 }) s m (([.ref (gad G 54)] : List Value).toArray) below meth c (MQ below (va_Qi (fun (r1 : Int32) (u : pw_Mem) => r1 = r ∧ u = μ') (pw_B G) (gA G)) (([.ref (gad G 54)] : List Value).toArray) s 0 0 (gA G)) G 4 69 [(0, .ref (gad G 54)), (1, .int v1), (3, .int v3)] [] m69) h (fun m69 h => ?_) (fun k69 hk69 h => ?_)
                  · refine pw_iconst (v := (0 : Int32)) C dX6_round_69 (by decide) ?_
                    exact hk70 _ _ h
                  · refine pw_if_eq (tgt := 69) C dX6_round_41 (by decide) (fun c41 => ?_) (fun c41 => ?_)
                    · have h := fn_pos c41 h
                      refine pw_sub [0, 1, 3] rfl ?_
                      exact hk69 _ h
                    · have h := fn_neg c41 h
                      refine pw_aload_n C dX6_round_44 rfl 0 rfl ?_
                      refine pw_get (v := .ref (gad G 55)) C iX6 (by decide) (pw_sh_54 _) rfl 0 (by decide) k2 rfl dX6_round_45 ?_
                      refine pw_bipush (v := (57 : Int32)) C dX6_round_48 (by decide) ?_
                      refine pw_iload_n C dX6_round_50 rfl 3 rfl ?_
                      refine pw_iadd C dX6_round_51 ?_
                      obtain ⟨hi52, h⟩ := fn_ix_s h
                      refine pw_iald C (by decide) (pw_sh_55 _) hi52 dX6_round_52 ?_
                      refine pw_aload_n C dX6_round_53 rfl 0 rfl ?_
                      refine pw_get (v := .ref (gad G 55)) C iX6 (by decide) (pw_sh_54 _) rfl 0 (by decide) k2 rfl dX6_round_54 ?_
                      refine pw_bipush (v := (19 : Int32)) C dX6_round_57 (by decide) ?_
                      refine pw_iload_n C dX6_round_59 rfl 3 rfl ?_
                      refine pw_iadd C dX6_round_60 ?_
                      obtain ⟨hi61, h⟩ := fn_ix_s h
                      refine pw_iald C (by decide) (pw_sh_55 _) hi61 dX6_round_61 ?_
                      refine pw_icmp_ne (tgt := 69) C dX6_round_62 (by decide) (fun c62 => ?_) (fun c62 => ?_)
                      · have h := fn_pos c62 h
                        refine pw_sub [0, 1, 3] rfl ?_
                        exact hk69 _ h
                      · have h := fn_neg c62 h
                        refine pw_iconst (v := (1 : Int32)) C dX6_round_65 (by decide) ?_
                        refine pw_goto (tgt := 70) C dX6_round_66 (by decide) ?_
                        refine pw_sub [0, 1, 3] rfl ?_
                        exact hk70 _ _ h
          refine pw_sub [2, 3, 1, 0] rfl ?_
          refine L34 _ (fun y34_2 m77 h => ?_) _ _ _ _ h
          refine pw_iload_n C dX6_round_77 rfl 2 rfl ?_
          refine pw_if_eq (tgt := 83) C dX6_round_78 (by decide) (fun c78 => ?_) (fun c78 => ?_)
          · have h := fn_pos c78 h
            refine pw_iinc (v := (v1 + 1)) (lv' := [(1, .int (v1 + 1)), (0, .ref (gad G 54)), (2, .int y34_2)]) C dX6_round_83 (q := 1) rfl rfl (by decide) rfl ?_
            refine pw_goto (tgt := 16) C dX6_round_86 (by decide) ?_
            refine pw_sub [1, 0] rfl ?_
            exact ih _ _ h
          · have h := fn_neg c78 h
            refine pw_iload_n C dX6_round_81 rfl 1 rfl ?_
            exact pw_iret C h dX6_round_82
    refine pw_sub [1, 0] rfl ?_
    refine L16 _ (fun m89 h => ?_) _ _ _ h
    refine pw_ldc C k3 dX6_round_89 ?_
    exact pw_iret C h dX6_round_91
  · have h := fn_neg c4 h
    refine pw_ldc C k1 dX6_round_7 ?_
    exact pw_iret C h dX6_round_9
set_option maxHeartbeats 4000000 in
set_option maxRecDepth 100000 in
theorem ct_X6_best (l : Launch) {G : pw_G} (hG : pw_Ok G) {a1 : Int32} {a2 : Int32} {a3 : Int32} {a4 : Int32}  {μ μ' : pw_Mem} {r : Int32} (h : fn_X6_best a1 a2 a3 a4 μ = some (r, μ')) : Met l yX6_best wsX6_best ({ frames := 5, cells := 0, slots := 0, locals := 124 }) (va_Pc [.ref (gad G 54), .int a1, .int a2, .int a3, .int a4] (pw_Pre G μ)) (va_Qi (fun (r1 : Int32) (u : pw_Mem) => r1 = r ∧ u = μ') (pw_B G) (gA G)) 0 0 (gA G) := by
  refine pw_met (lv := [(0, .ref (gad G 54)), (1, .int a1), (2, .int a2), (3, .int a3), (4, .int a4)]) (own := RX6) (cc := cX6_best) (maxL := 9) (ret := some .int) hG rfl (by decide) rfl rfl (Nat.le_of_ble_eq_true rfl) ?_
  intro p e s m below meth c C
  have iX6 : ∀ w ∈ u_ws RX6 TX6 16, w ∈ wsX6_best := fun _ h => List.mem_cons_of_mem _ (List.mem_append_right _ (h))
  have k1 := C.2.2.2.2.1 (.constantLong RX6 180 (30)) (List.mem_cons_of_mem _ (List.mem_append_left _ (List.mem_append_left _ (List.mem_of_getElem? (i := 0) rfl))))
  have k2 := C.2.2.2.2.1 (.constant RX6 51 (-1000001)) (List.mem_cons_of_mem _ (List.mem_append_left _ (List.mem_append_left _ (List.mem_of_getElem? (i := 1) rfl))))
  have k3 := C.2.2.2.2.1 (.fieldLink RX6 7 "PulpitRoadsModel" "w" "[I") (List.mem_cons_of_mem _ (List.mem_append_left _ (List.mem_append_left _ (List.mem_of_getElem? (i := 2) rfl))))
  unfold fn_X6_best at h
  refine pw_aload_n C dX6_best_0 rfl 0 rfl ?_
  refine pw_iload_n C dX6_best_1 rfl 1 rfl ?_
  obtain ⟨r2, m2, hc2, h⟩ := fn_bi_s h
  refine pw_callVi (rest := []) C (by decide) (pw_sh_54 _) rfl (ct_X6_isPulpit l C.2.2.2.2.2.2.2.2 hc2) (cwV 1 C.2.2.2.2.1 gX6_best_X6_isPulpit rfl rfl rfl (by decide +kernel) ⟨Nat.le_of_ble_eq_true rfl, Nat.le_of_ble_eq_true rfl⟩) rfl rfl (Nat.le_of_ble_eq_true rfl) dX6_best_2 ?_
  refine pw_if_eq (tgt := 39) C dX6_best_5 (by decide) (fun c5 => ?_) (fun c5 => ?_)
  · have h := fn_pos c5 h
    refine pw_ldc C k2 dX6_best_39 ?_
    exact pw_iret C h dX6_best_41
  · have h := fn_neg c5 h
    refine pw_aload_n C dX6_best_8 rfl 0 rfl ?_
    refine pw_iload_n C dX6_best_9 rfl 2 rfl ?_
    obtain ⟨r10, m10, hc10, h⟩ := fn_bi_s h
    refine pw_callVi (rest := []) C (by decide) (pw_sh_54 _) rfl (ct_X6_isStretch l C.2.2.2.2.2.2.2.2 hc10) (cwV 1 C.2.2.2.2.1 gX6_best_X6_isStretch rfl rfl rfl (by decide +kernel) ⟨Nat.le_of_ble_eq_true rfl, Nat.le_of_ble_eq_true rfl⟩) rfl rfl (Nat.le_of_ble_eq_true rfl) dX6_best_10 ?_
    refine pw_if_eq (tgt := 39) C dX6_best_13 (by decide) (fun c13 => ?_) (fun c13 => ?_)
    · have h := fn_pos c13 h
      refine pw_ldc C k2 dX6_best_39 ?_
      exact pw_iret C h dX6_best_41
    · have h := fn_neg c13 h
      refine pw_iload_n C dX6_best_16 rfl 3 rfl ?_
      refine pw_i2l C dX6_best_17 ?_
      refine pw_lconst (v := (1 : Int64)) C dX6_best_18 (by decide) ?_
      refine pw_ldc2 C k1 dX6_best_19 ?_
      obtain ⟨r22, m22, hc22, h⟩ := fn_bi_s h
      refine pw_callSi (rest := []) C (ct_X6_in l C.2.2.2.2.2.2.2.2 hc22) (va_cwS 3 C.2.2.2.2.1 gX6_best_X6_in rfl rfl rfl (by decide +kernel) ⟨Nat.le_of_ble_eq_true rfl, Nat.le_of_ble_eq_true rfl⟩) rfl rfl (Nat.le_of_ble_eq_true rfl) dX6_best_22 ?_
      refine pw_if_eq (tgt := 39) C dX6_best_25 (by decide) (fun c25 => ?_) (fun c25 => ?_)
      · have h := fn_pos c25 h
        refine pw_ldc C k2 dX6_best_39 ?_
        exact pw_iret C h dX6_best_41
      · have h := fn_neg c25 h
        refine pw_iload C dX6_best_28 4 rfl ?_
        refine pw_i2l C dX6_best_30 ?_
        refine pw_lconst (v := (0 : Int64)) C dX6_best_31 (by decide) ?_
        refine pw_lconst (v := (1 : Int64)) C dX6_best_32 (by decide) ?_
        obtain ⟨r33, m33, hc33, h⟩ := fn_bi_s h
        refine pw_callSi (rest := []) C (ct_X6_in l C.2.2.2.2.2.2.2.2 hc33) (va_cwS 3 C.2.2.2.2.1 gX6_best_X6_in rfl rfl rfl (by decide +kernel) ⟨Nat.le_of_ble_eq_true rfl, Nat.le_of_ble_eq_true rfl⟩) rfl rfl (Nat.le_of_ble_eq_true rfl) dX6_best_33 ?_
        refine pw_if_ne (tgt := 42) C dX6_best_36 (by decide) (fun c36 => ?_) (fun c36 => ?_)
        · have h := fn_pos c36 h
          refine pw_iconst (v := (0 : Int32)) C dX6_best_42 (by decide) ?_
          refine pw_istore (lv' := [(5, .int (0 : Int32)), (0, .ref (gad G 54)), (1, .int a1), (2, .int a2), (3, .int a3), (4, .int a4)]) C dX6_best_43 (by decide) rfl ?_
          refine pw_iconst (v := (-1 : Int32)) C dX6_best_45 (by decide) ?_
          refine pw_istore (lv' := [(6, .int (-1 : Int32)), (5, .int (0 : Int32)), (0, .ref (gad G 54)), (1, .int a1), (2, .int a2), (3, .int a3), (4, .int a4)]) C dX6_best_46 (by decide) rfl ?_
          refine pw_iconst (v := (0 : Int32)) C dX6_best_48 (by decide) ?_
          refine pw_istore (lv' := [(7, .int (0 : Int32)), (6, .int (-1 : Int32)), (5, .int (0 : Int32)), (0, .ref (gad G 54)), (1, .int a1), (2, .int a2), (3, .int a3), (4, .int a4)]) C dX6_best_49 (by decide) rfl ?_
          have L51 : ∀ (k : Int32 → Int32 → pw_Mem → Option (Int32 × pw_Mem)) (hk : ∀ (v5 : Int32) (v6 : Int32) (m1 : pw_Mem), k v5 v6 m1 = some (r, μ') → pw_Go p l e ({ frames := 5, cells := 0, slots := 0, locals := 124 }) s m (([.ref (gad G 54), .int a1, .int a2, .int a3, .int a4] : List Value).toArray) below meth c (MQ below (va_Qi (fun (r1 : Int32) (u : pw_Mem) => r1 = r ∧ u = μ') (pw_B G) (gA G)) (([.ref (gad G 54), .int a1, .int a2, .int a3, .int a4] : List Value).toArray) s 0 0 (gA G)) G 9 134 [(4, .int a4), (5, .int v5), (6, .int v6)] [] m1) (n : Nat) (v5 : Int32) (v6 : Int32) (v7 : Int32) (m1 : pw_Mem), fl_X6_best_51 k a1 a2 a3 a4 n v5 v6 v7 m1 = some (r, μ') → pw_Go p l e ({ frames := 5, cells := 0, slots := 0, locals := 124 }) s m (([.ref (gad G 54), .int a1, .int a2, .int a3, .int a4] : List Value).toArray) below meth c (MQ below (va_Qi (fun (r1 : Int32) (u : pw_Mem) => r1 = r ∧ u = μ') (pw_B G) (gA G)) (([.ref (gad G 54), .int a1, .int a2, .int a3, .int a4] : List Value).toArray) s 0 0 (gA G)) G 9 51 [(0, .ref (gad G 54)), (1, .int a1), (2, .int a2), (3, .int a3), (4, .int a4), (5, .int v5), (6, .int v6), (7, .int v7)] [] m1 := by
            intro k hk n
            induction n with
            | zero => intro v5 v6 v7 m1 h; exact nomatch (show (none : Option (Int32 × pw_Mem)) = some _ from h)
            | succ n ih =>
              intro v5 v6 v7 m1 h
              rw [fl_X6_best_51] at h
              refine pw_iload C dX6_best_51 7 rfl ?_
              refine pw_aload_n C dX6_best_53 rfl 0 rfl ?_
              refine pw_get (v := .ref (gad G 55)) C iX6 (by decide) (pw_sh_54 _) rfl 0 (by decide) k3 rfl dX6_best_54 ?_
              refine pw_iconst (v := (0 : Int32)) C dX6_best_57 (by decide) ?_
              obtain ⟨hi58, h⟩ := fn_ix_s h
              refine pw_iald C (by decide) (pw_sh_55 _) hi58 dX6_best_58 ?_
              refine pw_icmp_ge (tgt := 134) C dX6_best_59 (by decide) (fun c59 => ?_) (fun c59 => ?_)
              · have h := fn_pos c59 h
                refine pw_sub [4, 5, 6] rfl ?_
                exact hk _ _ _ h
              · have h := fn_neg c59 h
                refine pw_aload_n C dX6_best_62 rfl 0 rfl ?_
                obtain ⟨m63, hc63, h⟩ := fn_bv_s h
                refine pw_callVv (rest := []) C (by decide) (pw_sh_54 _) rfl (ct_X6_tries l C.2.2.2.2.2.2.2.2 hc63) (cwV 0 C.2.2.2.2.1 gX6_best_X6_tries rfl rfl rfl (by decide +kernel) ⟨Nat.le_of_ble_eq_true rfl, Nat.le_of_ble_eq_true rfl⟩) rfl rfl (Nat.le_of_ble_eq_true rfl) dX6_best_63 ?_
                refine pw_aload_n C dX6_best_66 rfl 0 rfl ?_
                refine pw_get (v := .ref (gad G 55)) C iX6 (by decide) (pw_sh_54 _) rfl 0 (by decide) k3 rfl dX6_best_67 ?_
                refine pw_bipush (v := (57 : Int32)) C dX6_best_70 (by decide) ?_
                refine pw_iload_n C dX6_best_72 rfl 1 rfl ?_
                refine pw_iadd C dX6_best_73 ?_
                refine pw_iload C dX6_best_74 7 rfl ?_
                obtain ⟨hi76, h⟩ := fn_ix_s h
                refine pw_iast C (by decide) pw_sh_55 hi76 dX6_best_76 ?_
                refine pw_aload_n C dX6_best_77 rfl 0 rfl ?_
                refine pw_iload_n C dX6_best_78 rfl 3 rfl ?_
                obtain ⟨m79, hc79, h⟩ := fn_bv_s h
                refine pw_callVv (rest := []) C (by decide) (pw_sh_54 _) rfl (ct_X6_goesOn l C.2.2.2.2.2.2.2.2 hc79) (cwV 1 C.2.2.2.2.1 gX6_best_X6_goesOn rfl rfl rfl (by decide +kernel) ⟨Nat.le_of_ble_eq_true rfl, Nat.le_of_ble_eq_true rfl⟩) rfl rfl (Nat.le_of_ble_eq_true rfl) dX6_best_79 ?_
                refine pw_aload_n C dX6_best_82 rfl 0 rfl ?_
                refine pw_get (v := .ref (gad G 55)) C iX6 (by decide) (pw_sh_54 _) rfl 0 (by decide) k3 rfl dX6_best_83 ?_
                refine pw_bipush (v := (67 : Int32)) C dX6_best_86 (by decide) ?_
                refine pw_iload_n C dX6_best_88 rfl 2 rfl ?_
                refine pw_iadd C dX6_best_89 ?_
                obtain ⟨hi90, h⟩ := fn_ix_s h
                refine pw_iald C (by decide) (pw_sh_55 _) hi90 dX6_best_90 ?_
                obtain ⟨r91, m91, hc91, h⟩ := fn_bi_s h
                refine pw_callSi (rest := []) C (ct_X6_ones l C.2.2.2.2.2.2.2.2 hc91) (va_cwS 1 C.2.2.2.2.1 gX6_best_X6_ones rfl rfl rfl (by decide +kernel) ⟨Nat.le_of_ble_eq_true rfl, Nat.le_of_ble_eq_true rfl⟩) rfl rfl (Nat.le_of_ble_eq_true rfl) dX6_best_91 ?_
                refine pw_istore (lv' := [(8, .int r91), (0, .ref (gad G 54)), (1, .int a1), (2, .int a2), (3, .int a3), (4, .int a4), (5, .int v5), (6, .int v6), (7, .int v7)]) C dX6_best_94 (by decide) rfl ?_
                refine pw_iload C dX6_best_96 0 rfl ?_
                refine pw_iload C dX6_best_98 7 rfl ?_
                refine fn_jn1_s (fun x110_0 m110 => pw_Go p l e ({ frames := 5, cells := 0, slots := 0, locals := 124 }) s m (([.ref (gad G 54), .int a1, .int a2, .int a3, .int a4] : List Value).toArray) below meth c (MQ below (va_Qi (fun (r1 : Int32) (u : pw_Mem) => r1 = r ∧ u = μ') (pw_B G) (gA G)) (([.ref (gad G 54), .int a1, .int a2, .int a3, .int a4] : List Value).toArray) s 0 0 (gA G)) G 9 110 [(0, .ref (gad G 54)), (1, .int a1), (2, .int a2), (3, .int a3), (4, .int a4), (6, .int v6), (7, .int v7), (8, .int r91)] [.int x110_0] m110) h (fun x110_0 m110 h => ?_) (fun k110 hk110 h => ?_)
                · refine pw_istore (lv' := [(5, .int x110_0), (0, .ref (gad G 54)), (1, .int a1), (2, .int a2), (3, .int a3), (4, .int a4), (6, .int v6), (7, .int v7), (8, .int r91)]) C dX6_best_110 (by decide) rfl ?_
                  refine pw_iload C dX6_best_112 8 rfl ?_
                  refine pw_iload C dX6_best_114 6 rfl ?_
                  refine fn_jn1_s (fun x126_0 m126 => pw_Go p l e ({ frames := 5, cells := 0, slots := 0, locals := 124 }) s m (([.ref (gad G 54), .int a1, .int a2, .int a3, .int a4] : List Value).toArray) below meth c (MQ below (va_Qi (fun (r1 : Int32) (u : pw_Mem) => r1 = r ∧ u = μ') (pw_B G) (gA G)) (([.ref (gad G 54), .int a1, .int a2, .int a3, .int a4] : List Value).toArray) s 0 0 (gA G)) G 9 126 [(0, .ref (gad G 54)), (1, .int a1), (2, .int a2), (3, .int a3), (4, .int a4), (5, .int x110_0), (7, .int v7)] [.int x126_0] m126) h (fun x126_0 m126 h => ?_) (fun k126 hk126 h => ?_)
                  · refine pw_istore (lv' := [(6, .int x126_0), (0, .ref (gad G 54)), (1, .int a1), (2, .int a2), (3, .int a3), (4, .int a4), (5, .int x110_0), (7, .int v7)]) C dX6_best_126 (by decide) rfl ?_
                    refine pw_iinc (v := (v7 + 1)) (lv' := [(7, .int (v7 + 1)), (6, .int x126_0), (0, .ref (gad G 54)), (1, .int a1), (2, .int a2), (3, .int a3), (4, .int a4), (5, .int x110_0)]) C dX6_best_128 (q := 7) rfl rfl (by decide) rfl ?_
                    refine pw_goto (tgt := 51) C dX6_best_131 (by decide) ?_
                    refine pw_sub [2, 3, 4, 5, 6, 7, 1, 0] rfl ?_
                    exact ih _ _ _ _ h
                  · refine pw_icmp_le (tgt := 124) C dX6_best_116 (by decide) (fun c116 => ?_) (fun c116 => ?_)
                    · have h := fn_pos c116 h
                      refine pw_iload C dX6_best_124 6 rfl ?_
                      refine pw_sub [1, 2, 3, 4, 5, 0, 7] rfl ?_
                      exact hk126 _ _ h
                    · have h := fn_neg c116 h
                      refine pw_iload C dX6_best_119 8 rfl ?_
                      refine pw_goto (tgt := 126) C dX6_best_121 (by decide) ?_
                      refine pw_sub [1, 2, 3, 4, 5, 0, 7] rfl ?_
                      exact hk126 _ _ h
                · refine pw_icmp_le (tgt := 108) C dX6_best_100 (by decide) (fun c100 => ?_) (fun c100 => ?_)
                  · have h := fn_pos c100 h
                    refine pw_iload C dX6_best_108 6 rfl ?_
                    refine pw_sub [1, 2, 3, 4, 5, 7, 8, 0] rfl ?_
                    exact hk110 _ _ h
                  · have h := fn_neg c100 h
                    refine pw_iload C dX6_best_103 8 rfl ?_
                    refine pw_goto (tgt := 110) C dX6_best_105 (by decide) ?_
                    refine pw_sub [1, 2, 3, 4, 5, 7, 8, 0] rfl ?_
                    exact hk110 _ _ h
          refine pw_sub [3, 4, 5, 6, 7, 2, 1, 0] rfl ?_
          refine L51 _ (fun y51_5 y51_6 m134 h => ?_) _ _ _ _ _ h
          refine pw_iload C dX6_best_134 0 rfl ?_
          refine pw_if_ne (tgt := 144) C dX6_best_136 (by decide) (fun c136 => ?_) (fun c136 => ?_)
          · have h := fn_pos c136 h
            refine pw_iload C dX6_best_144 2 rfl ?_
            exact pw_iret C h dX6_best_146
          · have h := fn_neg c136 h
            refine pw_iload C dX6_best_139 1 rfl ?_
            refine pw_goto (tgt := 146) C dX6_best_141 (by decide) ?_
            exact pw_iret C h dX6_best_146
        · have h := fn_neg c36 h
          refine pw_ldc C k2 dX6_best_39 ?_
          exact pw_iret C h dX6_best_41
set_option maxHeartbeats 4000000 in
set_option maxRecDepth 100000 in
theorem ct_X6_piece (l : Launch) {G : pw_G} (hG : pw_Ok G) {a1 : Int32}  {μ μ' : pw_Mem} {r : Int32} (h : fn_X6_piece a1 μ = some (r, μ')) : Met l yX6_piece wsX6_piece ({ frames := 1, cells := 0, slots := 0, locals := 25 }) (va_Pc [.ref (gad G 54), .int a1] (pw_Pre G μ)) (va_Qi (fun (r1 : Int32) (u : pw_Mem) => r1 = r ∧ u = μ') (pw_B G) (gA G)) 0 0 (gA G) := by
  refine pw_met (lv := [(0, .ref (gad G 54)), (1, .int a1)]) (own := RX6) (cc := cX6_piece) (maxL := 6) (ret := some .int) hG rfl (by decide) rfl rfl (Nat.le_of_ble_eq_true rfl) ?_
  intro p e s m below meth c C
  have iX6 : ∀ w ∈ u_ws RX6 TX6 16, w ∈ wsX6_piece := fun _ h => List.mem_cons_of_mem _ (List.mem_append_right _ (h))
  have k1 := C.2.2.2.2.1 (.constant RX6 146 (-1000002)) (List.mem_cons_of_mem _ (List.mem_append_left _ (List.mem_of_getElem? (i := 0) rfl)))
  have k2 := C.2.2.2.2.1 (.constant RX6 51 (-1000001)) (List.mem_cons_of_mem _ (List.mem_append_left _ (List.mem_of_getElem? (i := 1) rfl)))
  have k3 := C.2.2.2.2.1 (.constant RX6 176 (-1000000)) (List.mem_cons_of_mem _ (List.mem_append_left _ (List.mem_of_getElem? (i := 2) rfl)))
  have k4 := C.2.2.2.2.1 (.fieldLink RX6 7 "PulpitRoadsModel" "w" "[I") (List.mem_cons_of_mem _ (List.mem_append_left _ (List.mem_of_getElem? (i := 3) rfl)))
  unfold fn_X6_piece at h
  refine pw_aload_n C dX6_piece_0 rfl 0 rfl ?_
  obtain ⟨r1, m1, hc1, h⟩ := fn_bi_s h
  refine pw_callVi (rest := []) C (by decide) (pw_sh_54 _) rfl (ct_X6_isRoad l C.2.2.2.2.2.2.2.2 hc1) (cwV 0 C.2.2.2.2.1 gX6_piece_X6_isRoad rfl rfl rfl (by decide +kernel) ⟨Nat.le_of_ble_eq_true rfl, Nat.le_of_ble_eq_true rfl⟩) rfl rfl (Nat.le_of_ble_eq_true rfl) dX6_piece_1 ?_
  refine pw_if_ne (tgt := 10) C dX6_piece_4 (by decide) (fun c4 => ?_) (fun c4 => ?_)
  · have h := fn_pos c4 h
    refine pw_iload_n C dX6_piece_10 rfl 1 rfl ?_
    refine pw_i2l C dX6_piece_11 ?_
    refine pw_lconst (v := (0 : Int64)) C dX6_piece_12 (by decide) ?_
    refine pw_lconst (v := (1 : Int64)) C dX6_piece_13 (by decide) ?_
    obtain ⟨r14, m14, hc14, h⟩ := fn_bi_s h
    refine pw_callSi (rest := []) C (ct_X6_in l C.2.2.2.2.2.2.2.2 hc14) (va_cwS 3 C.2.2.2.2.1 gX6_piece_X6_in rfl rfl rfl (by decide +kernel) ⟨Nat.le_of_ble_eq_true rfl, Nat.le_of_ble_eq_true rfl⟩) rfl rfl (Nat.le_of_ble_eq_true rfl) dX6_piece_14 ?_
    refine pw_if_ne (tgt := 23) C dX6_piece_17 (by decide) (fun c17 => ?_) (fun c17 => ?_)
    · have h := fn_pos c17 h
      refine pw_ldc C k3 dX6_piece_23 ?_
      refine pw_istore_n (lv' := [(2, .int (-1000000 : Int32)), (0, .ref (gad G 54)), (1, .int a1)]) C dX6_piece_25 rfl (by decide) rfl ?_
      refine pw_iconst (v := (1 : Int32)) C dX6_piece_26 (by decide) ?_
      refine pw_istore_n (lv' := [(3, .int (1 : Int32)), (2, .int (-1000000 : Int32)), (0, .ref (gad G 54)), (1, .int a1)]) C dX6_piece_27 rfl (by decide) rfl ?_
      have L28 : ∀ (k : Int32 → pw_Mem → Option (Int32 × pw_Mem)) (hk : ∀ (v2 : Int32) (m1 : pw_Mem), k v2 m1 = some (r, μ') → pw_Go p l e ({ frames := 1, cells := 0, slots := 0, locals := 25 }) s m (([.ref (gad G 54), .int a1] : List Value).toArray) below meth c (MQ below (va_Qi (fun (r1 : Int32) (u : pw_Mem) => r1 = r ∧ u = μ') (pw_B G) (gA G)) (([.ref (gad G 54), .int a1] : List Value).toArray) s 0 0 (gA G)) G 6 128 [(1, .int a1), (2, .int v2)] [] m1) (n : Nat) (v2 : Int32) (v3 : Int32) (m1 : pw_Mem), fl_X6_piece_28 k a1 n v2 v3 m1 = some (r, μ') → pw_Go p l e ({ frames := 1, cells := 0, slots := 0, locals := 25 }) s m (([.ref (gad G 54), .int a1] : List Value).toArray) below meth c (MQ below (va_Qi (fun (r1 : Int32) (u : pw_Mem) => r1 = r ∧ u = μ') (pw_B G) (gA G)) (([.ref (gad G 54), .int a1] : List Value).toArray) s 0 0 (gA G)) G 6 28 [(0, .ref (gad G 54)), (1, .int a1), (2, .int v2), (3, .int v3)] [] m1 := by
        intro k hk n
        induction n with
        | zero => intro v2 v3 m1 h; exact nomatch (show (none : Option (Int32 × pw_Mem)) = some _ from h)
        | succ n ih =>
          intro v2 v3 m1 h
          rw [fl_X6_piece_28] at h
          refine pw_iload_n C dX6_piece_28 rfl 3 rfl ?_
          refine pw_iconst (v := (1 : Int32)) C dX6_piece_29 (by decide) ?_
          refine pw_aload_n C dX6_piece_30 rfl 0 rfl ?_
          refine pw_get (v := .ref (gad G 55)) C iX6 (by decide) (pw_sh_54 _) rfl 0 (by decide) k4 rfl dX6_piece_31 ?_
          refine pw_iconst (v := (0 : Int32)) C dX6_piece_34 (by decide) ?_
          obtain ⟨hi35, h⟩ := fn_ix_s h
          refine pw_iald C (by decide) (pw_sh_55 _) hi35 dX6_piece_35 ?_
          refine pw_ishl C dX6_piece_36 ?_
          refine pw_icmp_ge (tgt := 128) C dX6_piece_37 (by decide) (fun c37 => ?_) (fun c37 => ?_)
          · have h := fn_pos c37 h
            refine pw_sub [1, 2] rfl ?_
            exact hk _ _ h
          · have h := fn_neg c37 h
            refine pw_iconst (v := (0 : Int32)) C dX6_piece_40 (by decide) ?_
            refine pw_istore (lv' := [(4, .int (0 : Int32)), (0, .ref (gad G 54)), (1, .int a1), (2, .int v2), (3, .int v3)]) C dX6_piece_41 (by decide) rfl ?_
            refine pw_iconst (v := (0 : Int32)) C dX6_piece_43 (by decide) ?_
            refine pw_istore (lv' := [(5, .int (0 : Int32)), (4, .int (0 : Int32)), (0, .ref (gad G 54)), (1, .int a1), (2, .int v2), (3, .int v3)]) C dX6_piece_44 (by decide) rfl ?_
            have L46 : ∀ (k : Int32 → pw_Mem → Option (Int32 × pw_Mem)) (hk : ∀ (v4 : Int32) (m1 : pw_Mem), k v4 m1 = some (r, μ') → pw_Go p l e ({ frames := 1, cells := 0, slots := 0, locals := 25 }) s m (([.ref (gad G 54), .int a1] : List Value).toArray) below meth c (MQ below (va_Qi (fun (r1 : Int32) (u : pw_Mem) => r1 = r ∧ u = μ') (pw_B G) (gA G)) (([.ref (gad G 54), .int a1] : List Value).toArray) s 0 0 (gA G)) G 6 91 [(0, .ref (gad G 54)), (1, .int a1), (2, .int v2), (3, .int v3), (4, .int v4)] [] m1) (n : Nat) (v4 : Int32) (v5 : Int32) (m1 : pw_Mem), fl_X6_piece_46 k a1 v2 v3 n v4 v5 m1 = some (r, μ') → pw_Go p l e ({ frames := 1, cells := 0, slots := 0, locals := 25 }) s m (([.ref (gad G 54), .int a1] : List Value).toArray) below meth c (MQ below (va_Qi (fun (r1 : Int32) (u : pw_Mem) => r1 = r ∧ u = μ') (pw_B G) (gA G)) (([.ref (gad G 54), .int a1] : List Value).toArray) s 0 0 (gA G)) G 6 46 [(0, .ref (gad G 54)), (1, .int a1), (2, .int v2), (3, .int v3), (4, .int v4), (5, .int v5)] [] m1 := by
              intro k hk n
              induction n with
              | zero => intro v4 v5 m1 h; exact nomatch (show (none : Option (Int32 × pw_Mem)) = some _ from h)
              | succ n ih =>
                intro v4 v5 m1 h
                rw [fl_X6_piece_46] at h
                refine pw_iload C dX6_piece_46 5 rfl ?_
                refine pw_aload_n C dX6_piece_48 rfl 0 rfl ?_
                refine pw_get (v := .ref (gad G 55)) C iX6 (by decide) (pw_sh_54 _) rfl 0 (by decide) k4 rfl dX6_piece_49 ?_
                refine pw_iconst (v := (0 : Int32)) C dX6_piece_52 (by decide) ?_
                obtain ⟨hi53, h⟩ := fn_ix_s h
                refine pw_iald C (by decide) (pw_sh_55 _) hi53 dX6_piece_53 ?_
                refine pw_icmp_ge (tgt := 91) C dX6_piece_54 (by decide) (fun c54 => ?_) (fun c54 => ?_)
                · have h := fn_pos c54 h
                  refine pw_sub [0, 1, 2, 3, 4] rfl ?_
                  exact hk _ _ h
                · have h := fn_neg c54 h
                  refine pw_iload C dX6_piece_57 4 rfl ?_
                  refine pw_iload_n C dX6_piece_59 rfl 3 rfl ?_
                  refine pw_iload C dX6_piece_60 5 rfl ?_
                  obtain ⟨r62, m62, hc62, h⟩ := fn_bi_s h
                  refine pw_callSi (rest := [.int v4]) C (ct_X6_has l C.2.2.2.2.2.2.2.2 hc62) (va_cwS 2 C.2.2.2.2.1 gX6_piece_X6_has rfl rfl rfl (by decide +kernel) ⟨Nat.le_of_ble_eq_true rfl, Nat.le_of_ble_eq_true rfl⟩) rfl rfl (Nat.le_of_ble_eq_true rfl) dX6_piece_62 ?_
                  refine fn_jn1_s (fun x82_0 m82 => pw_Go p l e ({ frames := 1, cells := 0, slots := 0, locals := 25 }) s m (([.ref (gad G 54), .int a1] : List Value).toArray) below meth c (MQ below (va_Qi (fun (r1 : Int32) (u : pw_Mem) => r1 = r ∧ u = μ') (pw_B G) (gA G)) (([.ref (gad G 54), .int a1] : List Value).toArray) s 0 0 (gA G)) G 6 82 [(0, .ref (gad G 54)), (1, .int a1), (2, .int v2), (3, .int v3), (5, .int v5)] [.int x82_0, .int v4] m82) h (fun x82_0 m82 h => ?_) (fun k82 hk82 h => ?_)
                  · refine pw_ior C dX6_piece_82 ?_
                    refine pw_istore (lv' := [(4, .int (v4 ||| x82_0)), (0, .ref (gad G 54)), (1, .int a1), (2, .int v2), (3, .int v3), (5, .int v5)]) C dX6_piece_83 (by decide) rfl ?_
                    refine pw_iinc (v := (v5 + 1)) (lv' := [(5, .int (v5 + 1)), (4, .int (v4 ||| x82_0)), (0, .ref (gad G 54)), (1, .int a1), (2, .int v2), (3, .int v3)]) C dX6_piece_85 (q := 5) rfl rfl (by decide) rfl ?_
                    refine pw_goto (tgt := 46) C dX6_piece_88 (by decide) ?_
                    refine pw_sub [2, 3, 4, 5, 1, 0] rfl ?_
                    exact ih _ _ _ h
                  · refine pw_if_eq (tgt := 81) C dX6_piece_65 (by decide) (fun c65 => ?_) (fun c65 => ?_)
                    · have h := fn_pos c65 h
                      refine pw_iconst (v := (0 : Int32)) C dX6_piece_81 (by decide) ?_
                      refine pw_sub [0, 1, 2, 3, 5] rfl ?_
                      exact hk82 _ _ h
                    · have h := fn_neg c65 h
                      refine pw_aload_n C dX6_piece_68 rfl 0 rfl ?_
                      refine pw_get (v := .ref (gad G 55)) C iX6 (by decide) (pw_sh_54 _) rfl 0 (by decide) k4 rfl dX6_piece_69 ?_
                      refine pw_bipush (v := (29 : Int32)) C dX6_piece_72 (by decide) ?_
                      refine pw_iload C dX6_piece_74 5 rfl ?_
                      refine pw_iadd C dX6_piece_76 ?_
                      obtain ⟨hi77, h⟩ := fn_ix_s h
                      refine pw_iald C (by decide) (pw_sh_55 _) hi77 dX6_piece_77 ?_
                      refine pw_goto (tgt := 82) C dX6_piece_78 (by decide) ?_
                      refine pw_sub [0, 1, 2, 3, 5] rfl ?_
                      exact hk82 _ _ h
            refine pw_sub [2, 3, 4, 5, 1, 0] rfl ?_
            refine L46 _ (fun y46_4 m91 h => ?_) _ _ _ _ h
            refine pw_iload C dX6_piece_91 4 rfl ?_
            refine pw_aload_n C dX6_piece_93 rfl 0 rfl ?_
            refine pw_iconst (v := (0 : Int32)) C dX6_piece_94 (by decide) ?_
            obtain ⟨r95, m95, hc95, h⟩ := fn_bi_s h
            refine pw_callVi (rest := [.int y46_4]) C (by decide) (pw_sh_54 _) rfl (ct_X6_all l C.2.2.2.2.2.2.2.2 hc95) (cwV 1 C.2.2.2.2.1 gX6_piece_X6_all rfl rfl rfl (by decide +kernel) ⟨Nat.le_of_ble_eq_true rfl, Nat.le_of_ble_eq_true rfl⟩) rfl rfl (Nat.le_of_ble_eq_true rfl) dX6_piece_95 ?_
            refine fn_jn1_s (fun x121_0 m121 => pw_Go p l e ({ frames := 1, cells := 0, slots := 0, locals := 25 }) s m (([.ref (gad G 54), .int a1] : List Value).toArray) below meth c (MQ below (va_Qi (fun (r1 : Int32) (u : pw_Mem) => r1 = r ∧ u = μ') (pw_B G) (gA G)) (([.ref (gad G 54), .int a1] : List Value).toArray) s 0 0 (gA G)) G 6 121 [(0, .ref (gad G 54)), (1, .int a1), (3, .int v3)] [.int x121_0] m121) h (fun x121_0 m121 h => ?_) (fun k121 hk121 h => ?_)
            · refine pw_istore_n (lv' := [(2, .int x121_0), (0, .ref (gad G 54)), (1, .int a1), (3, .int v3)]) C dX6_piece_121 rfl (by decide) rfl ?_
              refine pw_iinc (v := (v3 + 1)) (lv' := [(3, .int (v3 + 1)), (2, .int x121_0), (0, .ref (gad G 54)), (1, .int a1)]) C dX6_piece_122 (q := 3) rfl rfl (by decide) rfl ?_
              refine pw_goto (tgt := 28) C dX6_piece_125 (by decide) ?_
              refine pw_sub [2, 3, 1, 0] rfl ?_
              exact ih _ _ _ h
            · refine fn_jn0_s (fun m120 => pw_Go p l e ({ frames := 1, cells := 0, slots := 0, locals := 25 }) s m (([.ref (gad G 54), .int a1] : List Value).toArray) below meth c (MQ below (va_Qi (fun (r1 : Int32) (u : pw_Mem) => r1 = r ∧ u = μ') (pw_B G) (gA G)) (([.ref (gad G 54), .int a1] : List Value).toArray) s 0 0 (gA G)) G 6 120 [(0, .ref (gad G 54)), (1, .int a1), (2, .int v2), (3, .int v3)] [] m120) h (fun m120 h => ?_) (fun k120 hk120 h => ?_)
              · refine pw_iload_n C dX6_piece_120 rfl 2 rfl ?_
                refine pw_sub [0, 1, 3] rfl ?_
                exact hk121 _ _ h
              · refine pw_icmp_ne (tgt := 120) C dX6_piece_98 (by decide) (fun c98 => ?_) (fun c98 => ?_)
                · have h := fn_pos c98 h
                  refine pw_sub [0, 1, 2, 3] rfl ?_
                  exact hk120 _ h
                · have h := fn_neg c98 h
                  refine pw_iload_n C dX6_piece_101 rfl 2 rfl ?_
                  refine fn_jn0_s (fun m116 => pw_Go p l e ({ frames := 1, cells := 0, slots := 0, locals := 25 }) s m (([.ref (gad G 54), .int a1] : List Value).toArray) below meth c (MQ below (va_Qi (fun (r1 : Int32) (u : pw_Mem) => r1 = r ∧ u = μ') (pw_B G) (gA G)) (([.ref (gad G 54), .int a1] : List Value).toArray) s 0 0 (gA G)) G 6 116 [(0, .ref (gad G 54)), (1, .int a1), (3, .int v3)] [] m116) h (fun m116 h => ?_) (fun k116 hk116 h => ?_)
                  · refine pw_iload_n C dX6_piece_116 rfl 2 rfl ?_
                    refine pw_goto (tgt := 121) C dX6_piece_117 (by decide) ?_
                    exact hk121 _ _ h
                  · refine pw_if_lt (tgt := 116) C dX6_piece_102 (by decide) (fun c102 => ?_) (fun c102 => ?_)
                    · have h := fn_pos c102 h
                      refine pw_sub [0, 1, 3] rfl ?_
                      exact hk116 _ h
                    · have h := fn_neg c102 h
                      refine pw_iload_n C dX6_piece_105 rfl 3 rfl ?_
                      obtain ⟨r106, m106, hc106, h⟩ := fn_bi_s h
                      refine pw_callSi (rest := []) C (ct_X6_ones l C.2.2.2.2.2.2.2.2 hc106) (va_cwS 1 C.2.2.2.2.1 gX6_piece_X6_ones rfl rfl rfl (by decide +kernel) ⟨Nat.le_of_ble_eq_true rfl, Nat.le_of_ble_eq_true rfl⟩) rfl rfl (Nat.le_of_ble_eq_true rfl) dX6_piece_106 ?_
                      refine pw_iload_n C dX6_piece_109 rfl 2 rfl ?_
                      obtain ⟨r110, m110, hc110, h⟩ := fn_bi_s h
                      refine pw_callSi (rest := [.int r106]) C (ct_X6_ones l C.2.2.2.2.2.2.2.2 hc110) (va_cwS 1 C.2.2.2.2.1 gX6_piece_X6_ones rfl rfl rfl (by decide +kernel) ⟨Nat.le_of_ble_eq_true rfl, Nat.le_of_ble_eq_true rfl⟩) rfl rfl (Nat.le_of_ble_eq_true rfl) dX6_piece_110 ?_
                      refine pw_icmp_ge (tgt := 120) C dX6_piece_113 (by decide) (fun c113 => ?_) (fun c113 => ?_)
                      · have h := fn_pos c113 h
                        refine pw_sub [0, 1, 2, 3] rfl ?_
                        exact hk120 _ h
                      · have h := fn_neg c113 h
                        refine pw_sub [0, 1, 3] rfl ?_
                        exact hk116 _ h
      refine pw_sub [2, 3, 1, 0] rfl ?_
      refine L28 _ (fun y28_2 m128 h => ?_) _ _ _ _ h
      refine pw_iload_n C dX6_piece_128 rfl 1 rfl ?_
      refine pw_if_ge (tgt := 137) C dX6_piece_129 (by decide) (fun c129 => ?_) (fun c129 => ?_)
      · have h := fn_pos c129 h
        refine pw_iload_n C dX6_piece_137 rfl 0 rfl ?_
        refine pw_if_ne (tgt := 148) C dX6_piece_138 (by decide) (fun c138 => ?_) (fun c138 => ?_)
        · have h := fn_pos c138 h
          refine pw_iload_n C dX6_piece_148 rfl 1 rfl ?_
          exact pw_iret C h dX6_piece_149
        · have h := fn_neg c138 h
          refine pw_iload_n C dX6_piece_141 rfl 1 rfl ?_
          obtain ⟨r142, m142, hc142, h⟩ := fn_bi_s h
          refine pw_callSi (rest := []) C (ct_X6_ones l C.2.2.2.2.2.2.2.2 hc142) (va_cwS 1 C.2.2.2.2.1 gX6_piece_X6_ones rfl rfl rfl (by decide +kernel) ⟨Nat.le_of_ble_eq_true rfl, Nat.le_of_ble_eq_true rfl⟩) rfl rfl (Nat.le_of_ble_eq_true rfl) dX6_piece_142 ?_
          refine pw_goto (tgt := 149) C dX6_piece_145 (by decide) ?_
          exact pw_iret C h dX6_piece_149
      · have h := fn_neg c129 h
        refine pw_ldc C k3 dX6_piece_132 ?_
        refine pw_goto (tgt := 149) C dX6_piece_134 (by decide) ?_
        exact pw_iret C h dX6_piece_149
    · have h := fn_neg c17 h
      refine pw_ldc C k2 dX6_piece_20 ?_
      exact pw_iret C h dX6_piece_22
  · have h := fn_neg c4 h
    refine pw_ldc C k1 dX6_piece_7 ?_
    exact pw_iret C h dX6_piece_9
set_option maxHeartbeats 4000000 in
set_option maxRecDepth 100000 in
theorem ct_X6_laysSaid (l : Launch) {G : pw_G} (hG : pw_Ok G) {a1 : Int32}  {μ μ' : pw_Mem} (h : fn_X6_laysSaid a1 μ = some μ') : Met l yX6_laysSaid wsX6_laysSaid ({ frames := 4, cells := 0, slots := 0, locals := 102 }) (va_Pc [.ref (gad G 54), .int a1] (pw_Pre G μ)) (va_Qv (fun (u : pw_Mem) => u = μ') (pw_B G) (gA G)) 0 0 (gA G) := by
  refine pw_met (lv := [(0, .ref (gad G 54)), (1, .int a1)]) (own := RX6) (cc := cX6_laysSaid) (maxL := 5) (ret := none) hG rfl (by decide) rfl rfl (Nat.le_of_ble_eq_true rfl) ?_
  intro p e s m below meth c C
  have iX6 : ∀ w ∈ u_ws RX6 TX6 16, w ∈ wsX6_laysSaid := fun _ h => List.mem_cons_of_mem _ (List.mem_append_right _ (h))
  have k1 := C.2.2.2.2.1 (.fieldLink RX6 28 "PulpitRoadsModel" "said" "[I") (List.mem_cons_of_mem _ (List.mem_append_left _ (List.mem_append_left _ (List.mem_of_getElem? (i := 0) rfl))))
  have k2 := C.2.2.2.2.1 (.fieldLink RX6 7 "PulpitRoadsModel" "w" "[I") (List.mem_cons_of_mem _ (List.mem_append_left _ (List.mem_append_left _ (List.mem_of_getElem? (i := 1) rfl))))
  unfold fn_X6_laysSaid at h
  refine pw_aload_n C dX6_laysSaid_0 rfl 0 rfl ?_
  obtain ⟨m1, hc1, h⟩ := fn_bv_s h
  refine pw_callVv (rest := []) C (by decide) (pw_sh_54 _) rfl (ct_X6_tries l C.2.2.2.2.2.2.2.2 hc1) (cwV 0 C.2.2.2.2.1 gX6_laysSaid_X6_tries rfl rfl rfl (by decide +kernel) ⟨Nat.le_of_ble_eq_true rfl, Nat.le_of_ble_eq_true rfl⟩) rfl rfl (Nat.le_of_ble_eq_true rfl) dX6_laysSaid_1 ?_
  refine pw_iconst (v := (0 : Int32)) C dX6_laysSaid_4 (by decide) ?_
  refine pw_istore_n (lv' := [(2, .int (0 : Int32)), (0, .ref (gad G 54)), (1, .int a1)]) C dX6_laysSaid_5 rfl (by decide) rfl ?_
  have L6 : ∀ (k : pw_Mem → Option (pw_Mem)) (hk : ∀  (m1 : pw_Mem), k m1 = some μ' → pw_Go p l e ({ frames := 4, cells := 0, slots := 0, locals := 102 }) s m (([.ref (gad G 54), .int a1] : List Value).toArray) below meth c (MQ below (va_Qv (fun (u : pw_Mem) => u = μ') (pw_B G) (gA G)) (([.ref (gad G 54), .int a1] : List Value).toArray) s 0 0 (gA G)) G 5 124 [] [] m1) (n : Nat) (v2 : Int32) (m1 : pw_Mem), fl_X6_laysSaid_6 k a1 n v2 m1 = some μ' → pw_Go p l e ({ frames := 4, cells := 0, slots := 0, locals := 102 }) s m (([.ref (gad G 54), .int a1] : List Value).toArray) below meth c (MQ below (va_Qv (fun (u : pw_Mem) => u = μ') (pw_B G) (gA G)) (([.ref (gad G 54), .int a1] : List Value).toArray) s 0 0 (gA G)) G 5 6 [(0, .ref (gad G 54)), (1, .int a1), (2, .int v2)] [] m1 := by
    intro k hk n
    induction n with
    | zero => intro v2 m1 h; exact nomatch (show (none : Option (pw_Mem)) = some _ from h)
    | succ n ih =>
      intro v2 m1 h
      rw [fl_X6_laysSaid_6] at h
      refine pw_iload_n C dX6_laysSaid_6 rfl 2 rfl ?_
      refine pw_iload_n C dX6_laysSaid_7 rfl 1 rfl ?_
      refine pw_icmp_ge (tgt := 124) C dX6_laysSaid_8 (by decide) (fun c8 => ?_) (fun c8 => ?_)
      · have h := fn_pos c8 h
        refine pw_sub [] rfl ?_
        exact hk _ h
      · have h := fn_neg c8 h
        refine pw_aload_n C dX6_laysSaid_11 rfl 0 rfl ?_
        refine pw_bipush (v := (38 : Int32)) C dX6_laysSaid_12 (by decide) ?_
        obtain ⟨r14, m14, hc14, h⟩ := fn_bi_s h
        refine pw_callVi (rest := []) C (by decide) (pw_sh_54 _) rfl (ct_X6_councilsIn l C.2.2.2.2.2.2.2.2 hc14) (cwV 1 C.2.2.2.2.1 gX6_laysSaid_X6_councilsIn rfl rfl rfl (by decide +kernel) ⟨Nat.le_of_ble_eq_true rfl, Nat.le_of_ble_eq_true rfl⟩) rfl rfl (Nat.le_of_ble_eq_true rfl) dX6_laysSaid_14 ?_
        refine pw_istore_n (lv' := [(3, .int r14), (0, .ref (gad G 54)), (1, .int a1), (2, .int v2)]) C dX6_laysSaid_17 rfl (by decide) rfl ?_
        refine pw_iconst (v := (0 : Int32)) C dX6_laysSaid_18 (by decide) ?_
        refine pw_istore (lv' := [(4, .int (0 : Int32)), (3, .int r14), (0, .ref (gad G 54)), (1, .int a1), (2, .int v2)]) C dX6_laysSaid_19 (by decide) rfl ?_
        have L21 : ∀ (k : pw_Mem → Option (pw_Mem)) (hk : ∀  (m1 : pw_Mem), k m1 = some μ' → pw_Go p l e ({ frames := 4, cells := 0, slots := 0, locals := 102 }) s m (([.ref (gad G 54), .int a1] : List Value).toArray) below meth c (MQ below (va_Qv (fun (u : pw_Mem) => u = μ') (pw_B G) (gA G)) (([.ref (gad G 54), .int a1] : List Value).toArray) s 0 0 (gA G)) G 5 47 [(0, .ref (gad G 54)), (1, .int a1), (2, .int v2), (3, .int r14)] [] m1) (n : Nat) (v4 : Int32) (m1 : pw_Mem), fl_X6_laysSaid_21 k a1 v2 r14 n v4 m1 = some μ' → pw_Go p l e ({ frames := 4, cells := 0, slots := 0, locals := 102 }) s m (([.ref (gad G 54), .int a1] : List Value).toArray) below meth c (MQ below (va_Qv (fun (u : pw_Mem) => u = μ') (pw_B G) (gA G)) (([.ref (gad G 54), .int a1] : List Value).toArray) s 0 0 (gA G)) G 5 21 [(0, .ref (gad G 54)), (1, .int a1), (2, .int v2), (3, .int r14), (4, .int v4)] [] m1 := by
          intro k hk n
          induction n with
          | zero => intro v4 m1 h; exact nomatch (show (none : Option (pw_Mem)) = some _ from h)
          | succ n ih =>
            intro v4 m1 h
            rw [fl_X6_laysSaid_21] at h
            refine pw_iload C dX6_laysSaid_21 4 rfl ?_
            refine pw_bipush (v := (9 : Int32)) C dX6_laysSaid_23 (by decide) ?_
            refine pw_icmp_ge (tgt := 47) C dX6_laysSaid_25 (by decide) (fun c25 => ?_) (fun c25 => ?_)
            · have h := fn_pos c25 h
              refine pw_sub [0, 1, 2, 3] rfl ?_
              exact hk _ h
            · have h := fn_neg c25 h
              refine pw_aload_n C dX6_laysSaid_28 rfl 0 rfl ?_
              refine pw_get (v := .ref (gad G 61)) C iX6 (by decide) (pw_sh_54 _) rfl 13 (by decide) k1 rfl dX6_laysSaid_29 ?_
              refine pw_bipush (v := (9 : Int32)) C dX6_laysSaid_32 (by decide) ?_
              refine pw_iload_n C dX6_laysSaid_34 rfl 2 rfl ?_
              refine pw_imul C dX6_laysSaid_35 ?_
              refine pw_iload C dX6_laysSaid_36 4 rfl ?_
              refine pw_iadd C dX6_laysSaid_38 ?_
              refine pw_iconst (v := (0 : Int32)) C dX6_laysSaid_39 (by decide) ?_
              obtain ⟨hi40, h⟩ := fn_ix_s h
              refine pw_iast C (by decide) pw_sh_61 hi40 dX6_laysSaid_40 ?_
              refine pw_iinc (v := (v4 + 1)) (lv' := [(4, .int (v4 + 1)), (0, .ref (gad G 54)), (1, .int a1), (2, .int v2), (3, .int r14)]) C dX6_laysSaid_41 (q := 4) rfl rfl (by decide) rfl ?_
              refine pw_goto (tgt := 21) C dX6_laysSaid_44 (by decide) ?_
              refine pw_sub [1, 2, 3, 4, 0] rfl ?_
              exact ih _ _ h
        refine pw_sub [2, 3, 4, 1, 0] rfl ?_
        refine L21 _ (fun m47 h => ?_) _ _ _ h
        refine pw_iconst (v := (0 : Int32)) C dX6_laysSaid_47 (by decide) ?_
        refine pw_istore (lv' := [(4, .int (0 : Int32)), (0, .ref (gad G 54)), (1, .int a1), (2, .int v2), (3, .int r14)]) C dX6_laysSaid_48 (by decide) rfl ?_
        have L50 : ∀ (k : pw_Mem → Option (pw_Mem)) (hk : ∀  (m1 : pw_Mem), k m1 = some μ' → pw_Go p l e ({ frames := 4, cells := 0, slots := 0, locals := 102 }) s m (([.ref (gad G 54), .int a1] : List Value).toArray) below meth c (MQ below (va_Qv (fun (u : pw_Mem) => u = μ') (pw_B G) (gA G)) (([.ref (gad G 54), .int a1] : List Value).toArray) s 0 0 (gA G)) G 5 111 [(0, .ref (gad G 54)), (1, .int a1), (2, .int v2)] [] m1) (n : Nat) (v4 : Int32) (m1 : pw_Mem), fl_X6_laysSaid_50 k a1 v2 r14 n v4 m1 = some μ' → pw_Go p l e ({ frames := 4, cells := 0, slots := 0, locals := 102 }) s m (([.ref (gad G 54), .int a1] : List Value).toArray) below meth c (MQ below (va_Qv (fun (u : pw_Mem) => u = μ') (pw_B G) (gA G)) (([.ref (gad G 54), .int a1] : List Value).toArray) s 0 0 (gA G)) G 5 50 [(0, .ref (gad G 54)), (1, .int a1), (2, .int v2), (3, .int r14), (4, .int v4)] [] m1 := by
          intro k hk n
          induction n with
          | zero => intro v4 m1 h; exact nomatch (show (none : Option (pw_Mem)) = some _ from h)
          | succ n ih =>
            intro v4 m1 h
            rw [fl_X6_laysSaid_50] at h
            refine pw_iload C dX6_laysSaid_50 4 rfl ?_
            refine pw_aload_n C dX6_laysSaid_52 rfl 0 rfl ?_
            refine pw_get (v := .ref (gad G 55)) C iX6 (by decide) (pw_sh_54 _) rfl 0 (by decide) k2 rfl dX6_laysSaid_53 ?_
            refine pw_iconst (v := (1 : Int32)) C dX6_laysSaid_56 (by decide) ?_
            obtain ⟨hi57, h⟩ := fn_ix_s h
            refine pw_iald C (by decide) (pw_sh_55 _) hi57 dX6_laysSaid_57 ?_
            refine pw_icmp_ge (tgt := 111) C dX6_laysSaid_58 (by decide) (fun c58 => ?_) (fun c58 => ?_)
            · have h := fn_pos c58 h
              refine pw_sub [0, 1, 2] rfl ?_
              exact hk _ h
            · have h := fn_neg c58 h
              refine pw_aload_n C dX6_laysSaid_61 rfl 0 rfl ?_
              refine pw_get (v := .ref (gad G 61)) C iX6 (by decide) (pw_sh_54 _) rfl 13 (by decide) k1 rfl dX6_laysSaid_62 ?_
              refine pw_bipush (v := (9 : Int32)) C dX6_laysSaid_65 (by decide) ?_
              refine pw_iload_n C dX6_laysSaid_67 rfl 2 rfl ?_
              refine pw_imul C dX6_laysSaid_68 ?_
              refine pw_aload_n C dX6_laysSaid_69 rfl 0 rfl ?_
              refine pw_get (v := .ref (gad G 55)) C iX6 (by decide) (pw_sh_54 _) rfl 0 (by decide) k2 rfl dX6_laysSaid_70 ?_
              refine pw_bipush (v := (57 : Int32)) C dX6_laysSaid_73 (by decide) ?_
              refine pw_iload C dX6_laysSaid_75 4 rfl ?_
              refine pw_iadd C dX6_laysSaid_77 ?_
              obtain ⟨hi78, h⟩ := fn_ix_s h
              refine pw_iald C (by decide) (pw_sh_55 _) hi78 dX6_laysSaid_78 ?_
              refine pw_iadd C dX6_laysSaid_79 ?_
              refine pw_dup2 C dX6_laysSaid_80 rfl rfl ?_
              obtain ⟨hi81, h⟩ := fn_ix_s h
              refine pw_iald C (by decide) (pw_sh_61 _) hi81 dX6_laysSaid_81 ?_
              refine pw_iload_n C dX6_laysSaid_82 rfl 3 rfl ?_
              refine pw_iload C dX6_laysSaid_83 4 rfl ?_
              obtain ⟨r85, m85, hc85, h⟩ := fn_bi_s h
              refine pw_callSi (rest := [.int (m1 61 ((((9 : Int32) * v2) + (m1 55 (((57 : Int32) + v4)).toNatClampNeg))).toNatClampNeg), .int (((9 : Int32) * v2) + (m1 55 (((57 : Int32) + v4)).toNatClampNeg)), .ref (gad G 61)]) C (ct_X6_has l C.2.2.2.2.2.2.2.2 hc85) (va_cwS 2 C.2.2.2.2.1 gX6_laysSaid_X6_has rfl rfl rfl (by decide +kernel) ⟨Nat.le_of_ble_eq_true rfl, Nat.le_of_ble_eq_true rfl⟩) rfl rfl (Nat.le_of_ble_eq_true rfl) dX6_laysSaid_85 ?_
              refine fn_jn1_s (fun x103_0 m103 => pw_Go p l e ({ frames := 4, cells := 0, slots := 0, locals := 102 }) s m (([.ref (gad G 54), .int a1] : List Value).toArray) below meth c (MQ below (va_Qv (fun (u : pw_Mem) => u = μ') (pw_B G) (gA G)) (([.ref (gad G 54), .int a1] : List Value).toArray) s 0 0 (gA G)) G 5 103 [(0, .ref (gad G 54)), (1, .int a1), (2, .int v2), (3, .int r14), (4, .int v4)] [.int x103_0, .int (m1 61 ((((9 : Int32) * v2) + (m1 55 (((57 : Int32) + v4)).toNatClampNeg))).toNatClampNeg), .int (((9 : Int32) * v2) + (m1 55 (((57 : Int32) + v4)).toNatClampNeg)), .ref (gad G 61)] m103) h (fun x103_0 m103 h => ?_) (fun k103 hk103 h => ?_)
              · refine pw_ior C dX6_laysSaid_103 ?_
                obtain ⟨hi104, h⟩ := fn_ix_s h
                refine pw_iast C (by decide) pw_sh_61 hi104 dX6_laysSaid_104 ?_
                refine pw_iinc (v := (v4 + 1)) (lv' := [(4, .int (v4 + 1)), (0, .ref (gad G 54)), (1, .int a1), (2, .int v2), (3, .int r14)]) C dX6_laysSaid_105 (q := 4) rfl rfl (by decide) rfl ?_
                refine pw_goto (tgt := 50) C dX6_laysSaid_108 (by decide) ?_
                refine pw_sub [1, 2, 3, 4, 0] rfl ?_
                exact ih _ _ h
              · refine pw_if_eq (tgt := 95) C dX6_laysSaid_88 (by decide) (fun c88 => ?_) (fun c88 => ?_)
                · have h := fn_pos c88 h
                  refine pw_aload_n C dX6_laysSaid_95 rfl 0 rfl ?_
                  refine pw_bipush (v := (38 : Int32)) C dX6_laysSaid_96 (by decide) ?_
                  refine pw_iload C dX6_laysSaid_98 4 rfl ?_
                  obtain ⟨r100, m100, hc100, h⟩ := fn_bi_s h
                  refine pw_callVi (rest := [.int (m1 61 ((((9 : Int32) * v2) + (m1 55 (((57 : Int32) + v4)).toNatClampNeg))).toNatClampNeg), .int (((9 : Int32) * v2) + (m1 55 (((57 : Int32) + v4)).toNatClampNeg)), .ref (gad G 61)]) C (by decide) (pw_sh_54 _) rfl (ct_X6_saysIn l C.2.2.2.2.2.2.2.2 hc100) (cwV 2 C.2.2.2.2.1 gX6_laysSaid_X6_saysIn rfl rfl rfl (by decide +kernel) ⟨Nat.le_of_ble_eq_true rfl, Nat.le_of_ble_eq_true rfl⟩) rfl rfl (Nat.le_of_ble_eq_true rfl) dX6_laysSaid_100 ?_
                  exact hk103 _ _ h
                · have h := fn_neg c88 h
                  refine pw_iconst (v := (0 : Int32)) C dX6_laysSaid_91 (by decide) ?_
                  refine pw_goto (tgt := 103) C dX6_laysSaid_92 (by decide) ?_
                  exact hk103 _ _ h
        refine pw_sub [1, 2, 3, 4, 0] rfl ?_
        refine L50 _ (fun m111 h => ?_) _ _ _ h
        refine pw_aload_n C dX6_laysSaid_111 rfl 0 rfl ?_
        refine pw_bipush (v := (38 : Int32)) C dX6_laysSaid_112 (by decide) ?_
        refine pw_iconst (v := (0 : Int32)) C dX6_laysSaid_114 (by decide) ?_
        obtain ⟨m115, hc115, h⟩ := fn_bv_s h
        refine pw_callVv (rest := []) C (by decide) (pw_sh_54 _) rfl (ct_X6_hourBy l C.2.2.2.2.2.2.2.2 hc115) (cwV 2 C.2.2.2.2.1 gX6_laysSaid_X6_hourBy rfl rfl rfl (by decide +kernel) ⟨Nat.le_of_ble_eq_true rfl, Nat.le_of_ble_eq_true rfl⟩) rfl rfl (Nat.le_of_ble_eq_true rfl) dX6_laysSaid_115 ?_
        refine pw_iinc (v := (v2 + 1)) (lv' := [(2, .int (v2 + 1)), (0, .ref (gad G 54)), (1, .int a1)]) C dX6_laysSaid_118 (q := 2) rfl rfl (by decide) rfl ?_
        refine pw_goto (tgt := 6) C dX6_laysSaid_121 (by decide) ?_
        refine pw_sub [1, 2, 0] rfl ?_
        exact ih _ _ h
  refine pw_sub [1, 2, 0] rfl ?_
  refine L6 _ (fun m124 h => ?_) _ _ _ h
  exact pw_vret C h dX6_laysSaid_124
set_option maxHeartbeats 4000000 in
set_option maxRecDepth 100000 in
theorem ct_X6_walk (l : Launch) {G : pw_G} (hG : pw_Ok G) {a1 : Int32} {a2 : Int32} {a3 : Int32}  {μ μ' : pw_Mem} {r : Int32} (h : fn_X6_walk a1 a2 a3 μ = some (r, μ')) : Met l yX6_walk wsX6_walk ({ frames := 5, cells := 0, slots := 0, locals := 126 }) (va_Pc [.ref (gad G 54), .int a1, .int a2, .int a3] (pw_Pre G μ)) (va_Qi (fun (r1 : Int32) (u : pw_Mem) => r1 = r ∧ u = μ') (pw_B G) (gA G)) 0 0 (gA G) := by
  refine pw_met (lv := [(0, .ref (gad G 54)), (1, .int a1), (2, .int a2), (3, .int a3)]) (own := RX6) (cc := cX6_walk) (maxL := 10) (ret := some .int) hG rfl (by decide) rfl rfl (Nat.le_of_ble_eq_true rfl) ?_
  intro p e s m below meth c C
  have iX6 : ∀ w ∈ u_ws RX6 TX6 16, w ∈ wsX6_walk := fun _ h => List.mem_cons_of_mem _ (List.mem_append_right _ (h))
  have k1 := C.2.2.2.2.1 (.constantLong RX6 182 (8)) (List.mem_cons_of_mem _ (List.mem_append_left _ (List.mem_append_left _ (List.mem_of_getElem? (i := 0) rfl))))
  have k2 := C.2.2.2.2.1 (.constant RX6 51 (-1000001)) (List.mem_cons_of_mem _ (List.mem_append_left _ (List.mem_append_left _ (List.mem_of_getElem? (i := 1) rfl))))
  have k3 := C.2.2.2.2.1 (.fieldLink RX6 7 "PulpitRoadsModel" "w" "[I") (List.mem_cons_of_mem _ (List.mem_append_left _ (List.mem_append_left _ (List.mem_of_getElem? (i := 2) rfl))))
  have k4 := C.2.2.2.2.1 (.fieldLink RX6 28 "PulpitRoadsModel" "said" "[I") (List.mem_cons_of_mem _ (List.mem_append_left _ (List.mem_append_left _ (List.mem_of_getElem? (i := 3) rfl))))
  unfold fn_X6_walk at h
  refine pw_aload_n C dX6_walk_0 rfl 0 rfl ?_
  refine pw_iload_n C dX6_walk_1 rfl 1 rfl ?_
  obtain ⟨r2, m2, hc2, h⟩ := fn_bi_s h
  refine pw_callVi (rest := []) C (by decide) (pw_sh_54 _) rfl (ct_X6_isStretch l C.2.2.2.2.2.2.2.2 hc2) (cwV 1 C.2.2.2.2.1 gX6_walk_X6_isStretch rfl rfl rfl (by decide +kernel) ⟨Nat.le_of_ble_eq_true rfl, Nat.le_of_ble_eq_true rfl⟩) rfl rfl (Nat.le_of_ble_eq_true rfl) dX6_walk_2 ?_
  refine pw_if_eq (tgt := 30) C dX6_walk_5 (by decide) (fun c5 => ?_) (fun c5 => ?_)
  · have h := fn_pos c5 h
    refine pw_ldc C k2 dX6_walk_30 ?_
    exact pw_iret C h dX6_walk_32
  · have h := fn_neg c5 h
    refine pw_iload_n C dX6_walk_8 rfl 2 rfl ?_
    refine pw_i2l C dX6_walk_9 ?_
    refine pw_lconst (v := (1 : Int64)) C dX6_walk_10 (by decide) ?_
    refine pw_ldc2 C k1 dX6_walk_11 ?_
    obtain ⟨r14, m14, hc14, h⟩ := fn_bi_s h
    refine pw_callSi (rest := []) C (ct_X6_in l C.2.2.2.2.2.2.2.2 hc14) (va_cwS 3 C.2.2.2.2.1 gX6_walk_X6_in rfl rfl rfl (by decide +kernel) ⟨Nat.le_of_ble_eq_true rfl, Nat.le_of_ble_eq_true rfl⟩) rfl rfl (Nat.le_of_ble_eq_true rfl) dX6_walk_14 ?_
    refine pw_if_eq (tgt := 30) C dX6_walk_17 (by decide) (fun c17 => ?_) (fun c17 => ?_)
    · have h := fn_pos c17 h
      refine pw_ldc C k2 dX6_walk_30 ?_
      exact pw_iret C h dX6_walk_32
    · have h := fn_neg c17 h
      refine pw_iload_n C dX6_walk_20 rfl 3 rfl ?_
      refine pw_i2l C dX6_walk_21 ?_
      refine pw_lconst (v := (0 : Int64)) C dX6_walk_22 (by decide) ?_
      refine pw_lconst (v := (1 : Int64)) C dX6_walk_23 (by decide) ?_
      obtain ⟨r24, m24, hc24, h⟩ := fn_bi_s h
      refine pw_callSi (rest := []) C (ct_X6_in l C.2.2.2.2.2.2.2.2 hc24) (va_cwS 3 C.2.2.2.2.1 gX6_walk_X6_in rfl rfl rfl (by decide +kernel) ⟨Nat.le_of_ble_eq_true rfl, Nat.le_of_ble_eq_true rfl⟩) rfl rfl (Nat.le_of_ble_eq_true rfl) dX6_walk_24 ?_
      refine pw_if_ne (tgt := 33) C dX6_walk_27 (by decide) (fun c27 => ?_) (fun c27 => ?_)
      · have h := fn_pos c27 h
        refine pw_aload_n C dX6_walk_33 rfl 0 rfl ?_
        refine pw_iload_n C dX6_walk_34 rfl 2 rfl ?_
        obtain ⟨m35, hc35, h⟩ := fn_bv_s h
        refine pw_callVv (rest := []) C (by decide) (pw_sh_54 _) rfl (ct_X6_laysSaid l C.2.2.2.2.2.2.2.2 hc35) (cwV 1 C.2.2.2.2.1 gX6_walk_X6_laysSaid rfl rfl rfl (by decide +kernel) ⟨Nat.le_of_ble_eq_true rfl, Nat.le_of_ble_eq_true rfl⟩) rfl rfl (Nat.le_of_ble_eq_true rfl) dX6_walk_35 ?_
        refine pw_iconst (v := (0 : Int32)) C dX6_walk_38 (by decide) ?_
        refine pw_istore (lv' := [(4, .int (0 : Int32)), (0, .ref (gad G 54)), (1, .int a1), (2, .int a2), (3, .int a3)]) C dX6_walk_39 (by decide) rfl ?_
        refine pw_iconst (v := (-1 : Int32)) C dX6_walk_41 (by decide) ?_
        refine pw_istore (lv' := [(5, .int (-1 : Int32)), (4, .int (0 : Int32)), (0, .ref (gad G 54)), (1, .int a1), (2, .int a2), (3, .int a3)]) C dX6_walk_42 (by decide) rfl ?_
        refine pw_iconst (v := (0 : Int32)) C dX6_walk_44 (by decide) ?_
        refine pw_istore (lv' := [(6, .int (0 : Int32)), (5, .int (-1 : Int32)), (4, .int (0 : Int32)), (0, .ref (gad G 54)), (1, .int a1), (2, .int a2), (3, .int a3)]) C dX6_walk_45 (by decide) rfl ?_
        have L47 : ∀ (k : Int32 → Int32 → pw_Mem → Option (Int32 × pw_Mem)) (hk : ∀ (v4 : Int32) (v5 : Int32) (m1 : pw_Mem), k v4 v5 m1 = some (r, μ') → pw_Go p l e ({ frames := 5, cells := 0, slots := 0, locals := 126 }) s m (([.ref (gad G 54), .int a1, .int a2, .int a3] : List Value).toArray) below meth c (MQ below (va_Qi (fun (r1 : Int32) (u : pw_Mem) => r1 = r ∧ u = μ') (pw_B G) (gA G)) (([.ref (gad G 54), .int a1, .int a2, .int a3] : List Value).toArray) s 0 0 (gA G)) G 10 169 [(3, .int a3), (4, .int v4), (5, .int v5)] [] m1) (n : Nat) (v4 : Int32) (v5 : Int32) (v6 : Int32) (m1 : pw_Mem), fl_X6_walk_47 k a1 a2 a3 n v4 v5 v6 m1 = some (r, μ') → pw_Go p l e ({ frames := 5, cells := 0, slots := 0, locals := 126 }) s m (([.ref (gad G 54), .int a1, .int a2, .int a3] : List Value).toArray) below meth c (MQ below (va_Qi (fun (r1 : Int32) (u : pw_Mem) => r1 = r ∧ u = μ') (pw_B G) (gA G)) (([.ref (gad G 54), .int a1, .int a2, .int a3] : List Value).toArray) s 0 0 (gA G)) G 10 47 [(0, .ref (gad G 54)), (1, .int a1), (2, .int a2), (3, .int a3), (4, .int v4), (5, .int v5), (6, .int v6)] [] m1 := by
          intro k hk n
          induction n with
          | zero => intro v4 v5 v6 m1 h; exact nomatch (show (none : Option (Int32 × pw_Mem)) = some _ from h)
          | succ n ih =>
            intro v4 v5 v6 m1 h
            rw [fl_X6_walk_47] at h
            refine pw_iload C dX6_walk_47 6 rfl ?_
            refine pw_iconst (v := (1 : Int32)) C dX6_walk_49 (by decide) ?_
            refine pw_iload_n C dX6_walk_50 rfl 2 rfl ?_
            refine pw_ishl C dX6_walk_51 ?_
            refine pw_icmp_ge (tgt := 169) C dX6_walk_52 (by decide) (fun c52 => ?_) (fun c52 => ?_)
            · have h := fn_pos c52 h
              refine pw_sub [3, 4, 5] rfl ?_
              exact hk _ _ _ h
            · have h := fn_neg c52 h
              refine pw_iload_n C dX6_walk_55 rfl 1 rfl ?_
              refine pw_istore (lv' := [(7, .int a1), (0, .ref (gad G 54)), (1, .int a1), (2, .int a2), (3, .int a3), (4, .int v4), (5, .int v5), (6, .int v6)]) C dX6_walk_56 (by decide) rfl ?_
              refine pw_iconst (v := (0 : Int32)) C dX6_walk_58 (by decide) ?_
              refine pw_istore (lv' := [(8, .int (0 : Int32)), (7, .int a1), (0, .ref (gad G 54)), (1, .int a1), (2, .int a2), (3, .int a3), (4, .int v4), (5, .int v5), (6, .int v6)]) C dX6_walk_59 (by decide) rfl ?_
              refine pw_iconst (v := (0 : Int32)) C dX6_walk_61 (by decide) ?_
              refine pw_istore (lv' := [(9, .int (0 : Int32)), (8, .int (0 : Int32)), (7, .int a1), (0, .ref (gad G 54)), (1, .int a1), (2, .int a2), (3, .int a3), (4, .int v4), (5, .int v5), (6, .int v6)]) C dX6_walk_62 (by decide) rfl ?_
              have L64 : ∀ (k : Int32 → pw_Mem → Option (Int32 × pw_Mem)) (hk : ∀ (v8 : Int32) (m1 : pw_Mem), k v8 m1 = some (r, μ') → pw_Go p l e ({ frames := 5, cells := 0, slots := 0, locals := 126 }) s m (([.ref (gad G 54), .int a1, .int a2, .int a3] : List Value).toArray) below meth c (MQ below (va_Qi (fun (r1 : Int32) (u : pw_Mem) => r1 = r ∧ u = μ') (pw_B G) (gA G)) (([.ref (gad G 54), .int a1, .int a2, .int a3] : List Value).toArray) s 0 0 (gA G)) G 10 122 [(0, .ref (gad G 54)), (1, .int a1), (2, .int a2), (3, .int a3), (4, .int v4), (5, .int v5), (6, .int v6), (8, .int v8)] [] m1) (n : Nat) (v7 : Int32) (v8 : Int32) (v9 : Int32) (m1 : pw_Mem), fl_X6_walk_64 k a1 a2 a3 v4 v5 v6 n v7 v8 v9 m1 = some (r, μ') → pw_Go p l e ({ frames := 5, cells := 0, slots := 0, locals := 126 }) s m (([.ref (gad G 54), .int a1, .int a2, .int a3] : List Value).toArray) below meth c (MQ below (va_Qi (fun (r1 : Int32) (u : pw_Mem) => r1 = r ∧ u = μ') (pw_B G) (gA G)) (([.ref (gad G 54), .int a1, .int a2, .int a3] : List Value).toArray) s 0 0 (gA G)) G 10 64 [(0, .ref (gad G 54)), (1, .int a1), (2, .int a2), (3, .int a3), (4, .int v4), (5, .int v5), (6, .int v6), (7, .int v7), (8, .int v8), (9, .int v9)] [] m1 := by
                intro k hk n
                induction n with
                | zero => intro v7 v8 v9 m1 h; exact nomatch (show (none : Option (Int32 × pw_Mem)) = some _ from h)
                | succ n ih =>
                  intro v7 v8 v9 m1 h
                  rw [fl_X6_walk_64] at h
                  refine pw_iload C dX6_walk_64 9 rfl ?_
                  refine pw_iload_n C dX6_walk_66 rfl 2 rfl ?_
                  refine pw_icmp_ge (tgt := 122) C dX6_walk_67 (by decide) (fun c67 => ?_) (fun c67 => ?_)
                  · have h := fn_pos c67 h
                    refine pw_sub [0, 1, 2, 3, 4, 5, 6, 8] rfl ?_
                    exact hk _ _ h
                  · have h := fn_neg c67 h
                    refine pw_iload C dX6_walk_70 6 rfl ?_
                    refine pw_iload C dX6_walk_72 9 rfl ?_
                    obtain ⟨r74, m74, hc74, h⟩ := fn_bi_s h
                    refine pw_callSi (rest := []) C (ct_X6_has l C.2.2.2.2.2.2.2.2 hc74) (va_cwS 2 C.2.2.2.2.1 gX6_walk_X6_has rfl rfl rfl (by decide +kernel) ⟨Nat.le_of_ble_eq_true rfl, Nat.le_of_ble_eq_true rfl⟩) rfl rfl (Nat.le_of_ble_eq_true rfl) dX6_walk_74 ?_
                    refine fn_jn1_s (fun x96_0 m96 => pw_Go p l e ({ frames := 5, cells := 0, slots := 0, locals := 126 }) s m (([.ref (gad G 54), .int a1, .int a2, .int a3] : List Value).toArray) below meth c (MQ below (va_Qi (fun (r1 : Int32) (u : pw_Mem) => r1 = r ∧ u = μ') (pw_B G) (gA G)) (([.ref (gad G 54), .int a1, .int a2, .int a3] : List Value).toArray) s 0 0 (gA G)) G 10 96 [(0, .ref (gad G 54)), (1, .int a1), (2, .int a2), (3, .int a3), (4, .int v4), (5, .int v5), (6, .int v6), (8, .int v8), (9, .int v9)] [.int x96_0] m96) h (fun x96_0 m96 h => ?_) (fun k96 hk96 h => ?_)
                    · refine pw_istore (lv' := [(7, .int x96_0), (0, .ref (gad G 54)), (1, .int a1), (2, .int a2), (3, .int a3), (4, .int v4), (5, .int v5), (6, .int v6), (8, .int v8), (9, .int v9)]) C dX6_walk_96 (by decide) rfl ?_
                      refine pw_iload C dX6_walk_98 8 rfl ?_
                      refine pw_aload_n C dX6_walk_100 rfl 1 rfl ?_
                      refine pw_get (v := .ref (gad G 61)) C iX6 (by decide) (pw_sh_54 _) rfl 13 (by decide) k4 rfl dX6_walk_101 ?_
                      refine pw_bipush (v := (9 : Int32)) C dX6_walk_104 (by decide) ?_
                      refine pw_iload C dX6_walk_106 9 rfl ?_
                      refine pw_imul C dX6_walk_108 ?_
                      refine pw_iload C dX6_walk_109 0 rfl ?_
                      refine pw_iadd C dX6_walk_111 ?_
                      obtain ⟨hi112, h⟩ := fn_ix_s h
                      refine pw_iald C (by decide) (pw_sh_61 _) hi112 dX6_walk_112 ?_
                      refine pw_ior C dX6_walk_113 ?_
                      refine pw_istore (lv' := [(8, .int (v8 ||| (m96 61 ((((9 : Int32) * v9) + x96_0)).toNatClampNeg))), (7, .int x96_0), (0, .ref (gad G 54)), (1, .int a1), (2, .int a2), (3, .int a3), (4, .int v4), (5, .int v5), (6, .int v6), (9, .int v9)]) C dX6_walk_114 (by decide) rfl ?_
                      refine pw_iinc (v := (v9 + 1)) (lv' := [(9, .int (v9 + 1)), (8, .int (v8 ||| (m96 61 ((((9 : Int32) * v9) + x96_0)).toNatClampNeg))), (7, .int x96_0), (0, .ref (gad G 54)), (1, .int a1), (2, .int a2), (3, .int a3), (4, .int v4), (5, .int v5), (6, .int v6)]) C dX6_walk_116 (q := 9) rfl rfl (by decide) rfl ?_
                      refine pw_goto (tgt := 64) C dX6_walk_119 (by decide) ?_
                      refine pw_sub [3, 4, 5, 6, 7, 8, 9, 2, 1, 0] rfl ?_
                      exact ih _ _ _ _ h
                    · refine pw_if_eq (tgt := 94) C dX6_walk_77 (by decide) (fun c77 => ?_) (fun c77 => ?_)
                      · have h := fn_pos c77 h
                        refine pw_iload C dX6_walk_94 7 rfl ?_
                        refine pw_sub [0, 1, 2, 3, 4, 5, 6, 8, 9] rfl ?_
                        exact hk96 _ _ h
                      · have h := fn_neg c77 h
                        refine pw_iload C dX6_walk_80 7 rfl ?_
                        refine pw_iconst (v := (1 : Int32)) C dX6_walk_82 (by decide) ?_
                        refine pw_iadd C dX6_walk_83 ?_
                        refine pw_aload_n C dX6_walk_84 rfl 0 rfl ?_
                        refine pw_get (v := .ref (gad G 55)) C iX6 (by decide) (pw_sh_54 _) rfl 0 (by decide) k3 rfl dX6_walk_85 ?_
                        refine pw_iconst (v := (0 : Int32)) C dX6_walk_88 (by decide) ?_
                        obtain ⟨hi89, h⟩ := fn_ix_s h
                        refine pw_iald C (by decide) (pw_sh_55 _) hi89 dX6_walk_89 ?_
                        obtain ⟨hz90, h⟩ := fn_nz_s h
                        refine pw_irem C dX6_walk_90 hz90 ?_
                        refine pw_goto (tgt := 96) C dX6_walk_91 (by decide) ?_
                        refine pw_sub [0, 1, 2, 3, 4, 5, 6, 8, 9] rfl ?_
                        exact hk96 _ _ h
              refine pw_sub [3, 4, 5, 6, 7, 8, 9, 2, 1, 0] rfl ?_
              refine L64 _ (fun y64_8 m122 h => ?_) _ _ _ _ _ h
              refine pw_iload C dX6_walk_122 7 rfl ?_
              obtain ⟨r124, m124, hc124, h⟩ := fn_bi_s h
              refine pw_callSi (rest := []) C (ct_X6_ones l C.2.2.2.2.2.2.2.2 hc124) (va_cwS 1 C.2.2.2.2.1 gX6_walk_X6_ones rfl rfl rfl (by decide +kernel) ⟨Nat.le_of_ble_eq_true rfl, Nat.le_of_ble_eq_true rfl⟩) rfl rfl (Nat.le_of_ble_eq_true rfl) dX6_walk_124 ?_
              refine pw_iload C dX6_walk_127 5 rfl ?_
              refine fn_jn1_s (fun x139_0 m139 => pw_Go p l e ({ frames := 5, cells := 0, slots := 0, locals := 126 }) s m (([.ref (gad G 54), .int a1, .int a2, .int a3] : List Value).toArray) below meth c (MQ below (va_Qi (fun (r1 : Int32) (u : pw_Mem) => r1 = r ∧ u = μ') (pw_B G) (gA G)) (([.ref (gad G 54), .int a1, .int a2, .int a3] : List Value).toArray) s 0 0 (gA G)) G 10 139 [(0, .ref (gad G 54)), (1, .int a1), (2, .int a2), (3, .int a3), (5, .int v5), (6, .int v6), (8, .int y64_8)] [.int x139_0] m139) h (fun x139_0 m139 h => ?_) (fun k139 hk139 h => ?_)
              · refine pw_istore (lv' := [(4, .int x139_0), (0, .ref (gad G 54)), (1, .int a1), (2, .int a2), (3, .int a3), (5, .int v5), (6, .int v6), (8, .int y64_8)]) C dX6_walk_139 (by decide) rfl ?_
                refine pw_iload C dX6_walk_141 7 rfl ?_
                obtain ⟨r143, m143, hc143, h⟩ := fn_bi_s h
                refine pw_callSi (rest := []) C (ct_X6_ones l C.2.2.2.2.2.2.2.2 hc143) (va_cwS 1 C.2.2.2.2.1 gX6_walk_X6_ones rfl rfl rfl (by decide +kernel) ⟨Nat.le_of_ble_eq_true rfl, Nat.le_of_ble_eq_true rfl⟩) rfl rfl (Nat.le_of_ble_eq_true rfl) dX6_walk_143 ?_
                refine pw_iload C dX6_walk_146 5 rfl ?_
                refine fn_jn1_s (fun x161_0 m161 => pw_Go p l e ({ frames := 5, cells := 0, slots := 0, locals := 126 }) s m (([.ref (gad G 54), .int a1, .int a2, .int a3] : List Value).toArray) below meth c (MQ below (va_Qi (fun (r1 : Int32) (u : pw_Mem) => r1 = r ∧ u = μ') (pw_B G) (gA G)) (([.ref (gad G 54), .int a1, .int a2, .int a3] : List Value).toArray) s 0 0 (gA G)) G 10 161 [(0, .ref (gad G 54)), (1, .int a1), (2, .int a2), (3, .int a3), (4, .int x139_0), (6, .int v6)] [.int x161_0] m161) h (fun x161_0 m161 h => ?_) (fun k161 hk161 h => ?_)
                · refine pw_istore (lv' := [(5, .int x161_0), (0, .ref (gad G 54)), (1, .int a1), (2, .int a2), (3, .int a3), (4, .int x139_0), (6, .int v6)]) C dX6_walk_161 (by decide) rfl ?_
                  refine pw_iinc (v := (v6 + 1)) (lv' := [(6, .int (v6 + 1)), (5, .int x161_0), (0, .ref (gad G 54)), (1, .int a1), (2, .int a2), (3, .int a3), (4, .int x139_0)]) C dX6_walk_163 (q := 6) rfl rfl (by decide) rfl ?_
                  refine pw_goto (tgt := 47) C dX6_walk_166 (by decide) ?_
                  refine pw_sub [2, 3, 4, 5, 6, 1, 0] rfl ?_
                  exact ih _ _ _ _ h
                · refine pw_icmp_le (tgt := 159) C dX6_walk_148 (by decide) (fun c148 => ?_) (fun c148 => ?_)
                  · have h := fn_pos c148 h
                    refine pw_iload C dX6_walk_159 5 rfl ?_
                    refine pw_sub [1, 2, 3, 4, 0, 6] rfl ?_
                    exact hk161 _ _ h
                  · have h := fn_neg c148 h
                    refine pw_iload C dX6_walk_151 7 rfl ?_
                    obtain ⟨r153, m153, hc153, h⟩ := fn_bi_s h
                    refine pw_callSi (rest := []) C (ct_X6_ones l C.2.2.2.2.2.2.2.2 hc153) (va_cwS 1 C.2.2.2.2.1 gX6_walk_X6_ones rfl rfl rfl (by decide +kernel) ⟨Nat.le_of_ble_eq_true rfl, Nat.le_of_ble_eq_true rfl⟩) rfl rfl (Nat.le_of_ble_eq_true rfl) dX6_walk_153 ?_
                    refine pw_goto (tgt := 161) C dX6_walk_156 (by decide) ?_
                    refine pw_sub [1, 2, 3, 4, 0, 6] rfl ?_
                    exact hk161 _ _ h
              · refine pw_icmp_le (tgt := 137) C dX6_walk_129 (by decide) (fun c129 => ?_) (fun c129 => ?_)
                · have h := fn_pos c129 h
                  refine pw_iload C dX6_walk_137 4 rfl ?_
                  refine pw_sub [0, 1, 2, 3, 5, 6, 7] rfl ?_
                  exact hk139 _ _ h
                · have h := fn_neg c129 h
                  refine pw_iload C dX6_walk_132 6 rfl ?_
                  refine pw_goto (tgt := 139) C dX6_walk_134 (by decide) ?_
                  refine pw_sub [0, 1, 2, 3, 5, 6, 7] rfl ?_
                  exact hk139 _ _ h
        refine pw_sub [3, 4, 5, 6, 2, 1, 0] rfl ?_
        refine L47 _ (fun y47_4 y47_5 m169 h => ?_) _ _ _ _ _ h
        refine pw_iload_n C dX6_walk_169 rfl 0 rfl ?_
        refine pw_if_ne (tgt := 178) C dX6_walk_170 (by decide) (fun c170 => ?_) (fun c170 => ?_)
        · have h := fn_pos c170 h
          refine pw_iload C dX6_walk_178 1 rfl ?_
          exact pw_iret C h dX6_walk_180
        · have h := fn_neg c170 h
          refine pw_iload C dX6_walk_173 2 rfl ?_
          refine pw_goto (tgt := 180) C dX6_walk_175 (by decide) ?_
          exact pw_iret C h dX6_walk_180
      · have h := fn_neg c27 h
        refine pw_ldc C k2 dX6_walk_30 ?_
        exact pw_iret C h dX6_walk_32
set_option maxHeartbeats 4000000 in
set_option maxRecDepth 100000 in
theorem ct_X6_isSo (l : Launch) {G : pw_G} (hG : pw_Ok G) {a1 : Int32} {a2 : Int32} {a3 : Int32}  {μ μ' : pw_Mem} {r : Int32} (h : fn_X6_isSo a1 a2 a3 μ = some (r, μ')) : Met l yX6_isSo wsX6_isSo ({ frames := 4, cells := 0, slots := 0, locals := 102 }) (va_Pc [.ref (gad G 54), .int a1, .int a2, .int a3] (pw_Pre G μ)) (va_Qi (fun (r1 : Int32) (u : pw_Mem) => r1 = r ∧ u = μ') (pw_B G) (gA G)) 0 0 (gA G) := by
  refine pw_met (lv := [(0, .ref (gad G 54)), (1, .int a1), (2, .int a2), (3, .int a3)]) (own := RX6) (cc := cX6_isSo) (maxL := 6) (ret := some .boolean) hG rfl (by decide) rfl rfl (Nat.le_of_ble_eq_true rfl) ?_
  intro p e s m below meth c C
  have iX6 : ∀ w ∈ u_ws RX6 TX6 16, w ∈ wsX6_isSo := fun _ h => List.mem_cons_of_mem _ (List.mem_append_right _ (h))
  have k1 := C.2.2.2.2.1 (.fieldLink RX6 7 "PulpitRoadsModel" "w" "[I") (List.mem_cons_of_mem _ (List.mem_append_left _ (List.mem_append_left _ (List.mem_of_getElem? (i := 0) rfl))))
  have k2 := C.2.2.2.2.1 (.fieldLink RX6 22 "PulpitRoadsModel" "items" "[I") (List.mem_cons_of_mem _ (List.mem_append_left _ (List.mem_append_left _ (List.mem_of_getElem? (i := 1) rfl))))
  unfold fn_X6_isSo at h
  refine pw_iconst (v := (1 : Int32)) C dX6_isSo_0 (by decide) ?_
  refine pw_istore (lv' := [(4, .int (1 : Int32)), (0, .ref (gad G 54)), (1, .int a1), (2, .int a2), (3, .int a3)]) C dX6_isSo_1 (by decide) rfl ?_
  refine pw_iconst (v := (0 : Int32)) C dX6_isSo_3 (by decide) ?_
  refine pw_istore (lv' := [(5, .int (0 : Int32)), (4, .int (1 : Int32)), (0, .ref (gad G 54)), (1, .int a1), (2, .int a2), (3, .int a3)]) C dX6_isSo_4 (by decide) rfl ?_
  have L6 : ∀ (k : Int32 → pw_Mem → Option (Int32 × pw_Mem)) (hk : ∀ (v4 : Int32) (m1 : pw_Mem), k v4 m1 = some (r, μ') → pw_Go p l e ({ frames := 4, cells := 0, slots := 0, locals := 102 }) s m (([.ref (gad G 54), .int a1, .int a2, .int a3] : List Value).toArray) below meth c (MQ below (va_Qi (fun (r1 : Int32) (u : pw_Mem) => r1 = r ∧ u = μ') (pw_B G) (gA G)) (([.ref (gad G 54), .int a1, .int a2, .int a3] : List Value).toArray) s 0 0 (gA G)) G 6 58 [(4, .int v4)] [] m1) (n : Nat) (v4 : Int32) (v5 : Int32) (m1 : pw_Mem), fl_X6_isSo_6 k a1 a2 a3 n v4 v5 m1 = some (r, μ') → pw_Go p l e ({ frames := 4, cells := 0, slots := 0, locals := 102 }) s m (([.ref (gad G 54), .int a1, .int a2, .int a3] : List Value).toArray) below meth c (MQ below (va_Qi (fun (r1 : Int32) (u : pw_Mem) => r1 = r ∧ u = μ') (pw_B G) (gA G)) (([.ref (gad G 54), .int a1, .int a2, .int a3] : List Value).toArray) s 0 0 (gA G)) G 6 6 [(0, .ref (gad G 54)), (1, .int a1), (2, .int a2), (3, .int a3), (4, .int v4), (5, .int v5)] [] m1 := by
    intro k hk n
    induction n with
    | zero => intro v4 v5 m1 h; exact nomatch (show (none : Option (Int32 × pw_Mem)) = some _ from h)
    | succ n ih =>
      intro v4 v5 m1 h
      rw [fl_X6_isSo_6] at h
      refine pw_iload C dX6_isSo_6 5 rfl ?_
      refine pw_iload_n C dX6_isSo_8 rfl 3 rfl ?_
      refine pw_icmp_ge (tgt := 58) C dX6_isSo_9 (by decide) (fun c9 => ?_) (fun c9 => ?_)
      · have h := fn_pos c9 h
        refine pw_sub [4] rfl ?_
        exact hk _ _ h
      · have h := fn_neg c9 h
        refine pw_iload C dX6_isSo_12 4 rfl ?_
        refine pw_if_eq (tgt := 58) C dX6_isSo_14 (by decide) (fun c14 => ?_) (fun c14 => ?_)
        · have h := fn_pos c14 h
          refine pw_sub [4] rfl ?_
          exact hk _ _ h
        · have h := fn_neg c14 h
          refine pw_aload_n C dX6_isSo_17 rfl 0 rfl ?_
          refine pw_bipush (v := (38 : Int32)) C dX6_isSo_18 (by decide) ?_
          refine pw_iconst (v := (0 : Int32)) C dX6_isSo_20 (by decide) ?_
          obtain ⟨m21, hc21, h⟩ := fn_bv_s h
          refine pw_callVv (rest := []) C (by decide) (pw_sh_54 _) rfl (ct_X6_hourBy l C.2.2.2.2.2.2.2.2 hc21) (cwV 2 C.2.2.2.2.1 gX6_isSo_X6_hourBy rfl rfl rfl (by decide +kernel) ⟨Nat.le_of_ble_eq_true rfl, Nat.le_of_ble_eq_true rfl⟩) rfl rfl (Nat.le_of_ble_eq_true rfl) dX6_isSo_21 ?_
          refine pw_aload_n C dX6_isSo_24 rfl 0 rfl ?_
          refine pw_get (v := .ref (gad G 55)) C iX6 (by decide) (pw_sh_54 _) rfl 0 (by decide) k1 rfl dX6_isSo_25 ?_
          refine pw_bipush (v := (57 : Int32)) C dX6_isSo_28 (by decide) ?_
          refine pw_iload_n C dX6_isSo_30 rfl 1 rfl ?_
          refine pw_iadd C dX6_isSo_31 ?_
          obtain ⟨hi32, h⟩ := fn_ix_s h
          refine pw_iald C (by decide) (pw_sh_55 _) hi32 dX6_isSo_32 ?_
          refine pw_aload_n C dX6_isSo_33 rfl 0 rfl ?_
          refine pw_get (v := .ref (gad G 59)) C iX6 (by decide) (pw_sh_54 _) rfl 8 (by decide) k2 rfl dX6_isSo_34 ?_
          refine pw_iload_n C dX6_isSo_37 rfl 2 rfl ?_
          refine pw_iload C dX6_isSo_38 5 rfl ?_
          refine pw_iadd C dX6_isSo_40 ?_
          obtain ⟨hi41, h⟩ := fn_ix_s h
          refine pw_iald C (by decide) (pw_sh_59 _) hi41 dX6_isSo_41 ?_
          refine fn_jn1_s (fun x50_0 m50 => pw_Go p l e ({ frames := 4, cells := 0, slots := 0, locals := 102 }) s m (([.ref (gad G 54), .int a1, .int a2, .int a3] : List Value).toArray) below meth c (MQ below (va_Qi (fun (r1 : Int32) (u : pw_Mem) => r1 = r ∧ u = μ') (pw_B G) (gA G)) (([.ref (gad G 54), .int a1, .int a2, .int a3] : List Value).toArray) s 0 0 (gA G)) G 6 50 [(0, .ref (gad G 54)), (1, .int a1), (2, .int a2), (3, .int a3), (5, .int v5)] [.int x50_0] m50) h (fun x50_0 m50 h => ?_) (fun k50 hk50 h => ?_)
          · refine pw_istore (lv' := [(4, .int x50_0), (0, .ref (gad G 54)), (1, .int a1), (2, .int a2), (3, .int a3), (5, .int v5)]) C dX6_isSo_50 (by decide) rfl ?_
            refine pw_iinc (v := (v5 + 1)) (lv' := [(5, .int (v5 + 1)), (4, .int x50_0), (0, .ref (gad G 54)), (1, .int a1), (2, .int a2), (3, .int a3)]) C dX6_isSo_52 (q := 5) rfl rfl (by decide) rfl ?_
            refine pw_goto (tgt := 6) C dX6_isSo_55 (by decide) ?_
            refine pw_sub [2, 3, 4, 5, 1, 0] rfl ?_
            exact ih _ _ _ h
          · refine pw_icmp_ne (tgt := 49) C dX6_isSo_42 (by decide) (fun c42 => ?_) (fun c42 => ?_)
            · have h := fn_pos c42 h
              refine pw_iconst (v := (0 : Int32)) C dX6_isSo_49 (by decide) ?_
              refine pw_sub [0, 1, 2, 3, 5] rfl ?_
              exact hk50 _ _ h
            · have h := fn_neg c42 h
              refine pw_iconst (v := (1 : Int32)) C dX6_isSo_45 (by decide) ?_
              refine pw_goto (tgt := 50) C dX6_isSo_46 (by decide) ?_
              refine pw_sub [0, 1, 2, 3, 5] rfl ?_
              exact hk50 _ _ h
  refine pw_sub [2, 3, 4, 5, 1, 0] rfl ?_
  refine L6 _ (fun y6_4 m58 h => ?_) _ _ _ _ h
  refine pw_iload C dX6_isSo_58 0 rfl ?_
  obtain ⟨hz60, h⟩ := fn_bz_s h
  exact pw_zret C hz60 h dX6_isSo_60
set_option maxHeartbeats 4000000 in
set_option maxRecDepth 100000 in
theorem ct_X6_fits (l : Launch) {G : pw_G} (hG : pw_Ok G) {a1 : Int32} {a2 : Int32} {a3 : Int32} {a4 : Int32} {a5 : Int32}  {μ μ' : pw_Mem} {r : Int32} (h : fn_X6_fits a1 a2 a3 a4 a5 μ = some (r, μ')) : Met l yX6_fits wsX6_fits ({ frames := 5, cells := 0, slots := 0, locals := 127 }) (va_Pc [.ref (gad G 54), .int a1, .int a2, .int a3, .int a4, .int a5] (pw_Pre G μ)) (va_Qi (fun (r1 : Int32) (u : pw_Mem) => r1 = r ∧ u = μ') (pw_B G) (gA G)) 0 0 (gA G) := by
  refine pw_met (lv := [(0, .ref (gad G 54)), (1, .int a1), (2, .int a2), (3, .int a3), (4, .int a4), (5, .int a5)]) (own := RX6) (cc := cX6_fits) (maxL := 11) (ret := some .int) hG rfl (by decide) rfl rfl (Nat.le_of_ble_eq_true rfl) ?_
  intro p e s m below meth c C
  have iX6 : ∀ w ∈ u_ws RX6 TX6 16, w ∈ wsX6_fits := fun _ h => List.mem_cons_of_mem _ (List.mem_append_right _ (h))
  have k1 := C.2.2.2.2.1 (.constantLong RX6 187 (12)) (List.mem_cons_of_mem _ (List.mem_append_left _ (List.mem_append_left _ (List.mem_of_getElem? (i := 0) rfl))))
  have k2 := C.2.2.2.2.1 (.constantLong RX6 189 (3)) (List.mem_cons_of_mem _ (List.mem_append_left _ (List.mem_append_left _ (List.mem_of_getElem? (i := 1) rfl))))
  have k3 := C.2.2.2.2.1 (.constant RX6 51 (-1000001)) (List.mem_cons_of_mem _ (List.mem_append_left _ (List.mem_append_left _ (List.mem_of_getElem? (i := 2) rfl))))
  have k4 := C.2.2.2.2.1 (.fieldLink RX6 40 "PulpitRoadsModel" "status" "I") (List.mem_cons_of_mem _ (List.mem_append_left _ (List.mem_append_left _ (List.mem_of_getElem? (i := 3) rfl))))
  have k5 := C.2.2.2.2.1 (.fieldLink RX6 7 "PulpitRoadsModel" "w" "[I") (List.mem_cons_of_mem _ (List.mem_append_left _ (List.mem_append_left _ (List.mem_of_getElem? (i := 4) rfl))))
  unfold fn_X6_fits at h
  refine pw_aload_n C dX6_fits_0 rfl 0 rfl ?_
  refine pw_iload_n C dX6_fits_1 rfl 1 rfl ?_
  obtain ⟨r2, m2, hc2, h⟩ := fn_bi_s h
  refine pw_callVi (rest := []) C (by decide) (pw_sh_54 _) rfl (ct_X6_isPulpit l C.2.2.2.2.2.2.2.2 hc2) (cwV 1 C.2.2.2.2.1 gX6_fits_X6_isPulpit rfl rfl rfl (by decide +kernel) ⟨Nat.le_of_ble_eq_true rfl, Nat.le_of_ble_eq_true rfl⟩) rfl rfl (Nat.le_of_ble_eq_true rfl) dX6_fits_2 ?_
  refine pw_if_eq (tgt := 41) C dX6_fits_5 (by decide) (fun c5 => ?_) (fun c5 => ?_)
  · have h := fn_pos c5 h
    refine pw_ldc C k3 dX6_fits_41 ?_
    exact pw_iret C h dX6_fits_43
  · have h := fn_neg c5 h
    refine pw_iload_n C dX6_fits_8 rfl 2 rfl ?_
    obtain ⟨r9, m9, hc9, h⟩ := fn_bi_s h
    refine pw_callSi (rest := []) C (ct_X6_isRow l C.2.2.2.2.2.2.2.2 hc9) (va_cwS 1 C.2.2.2.2.1 gX6_fits_X6_isRow rfl rfl rfl (by decide +kernel) ⟨Nat.le_of_ble_eq_true rfl, Nat.le_of_ble_eq_true rfl⟩) rfl rfl (Nat.le_of_ble_eq_true rfl) dX6_fits_9 ?_
    refine pw_if_eq (tgt := 41) C dX6_fits_12 (by decide) (fun c12 => ?_) (fun c12 => ?_)
    · have h := fn_pos c12 h
      refine pw_ldc C k3 dX6_fits_41 ?_
      exact pw_iret C h dX6_fits_43
    · have h := fn_neg c12 h
      refine pw_iload C dX6_fits_15 4 rfl ?_
      refine pw_i2l C dX6_fits_17 ?_
      refine pw_lconst (v := (1 : Int64)) C dX6_fits_18 (by decide) ?_
      refine pw_ldc2 C k1 dX6_fits_19 ?_
      obtain ⟨r22, m22, hc22, h⟩ := fn_bi_s h
      refine pw_callSi (rest := []) C (ct_X6_in l C.2.2.2.2.2.2.2.2 hc22) (va_cwS 3 C.2.2.2.2.1 gX6_fits_X6_in rfl rfl rfl (by decide +kernel) ⟨Nat.le_of_ble_eq_true rfl, Nat.le_of_ble_eq_true rfl⟩) rfl rfl (Nat.le_of_ble_eq_true rfl) dX6_fits_22 ?_
      refine pw_if_eq (tgt := 41) C dX6_fits_25 (by decide) (fun c25 => ?_) (fun c25 => ?_)
      · have h := fn_pos c25 h
        refine pw_ldc C k3 dX6_fits_41 ?_
        exact pw_iret C h dX6_fits_43
      · have h := fn_neg c25 h
        refine pw_iload C dX6_fits_28 5 rfl ?_
        refine pw_i2l C dX6_fits_30 ?_
        refine pw_lconst (v := (0 : Int64)) C dX6_fits_31 (by decide) ?_
        refine pw_ldc2 C k2 dX6_fits_32 ?_
        obtain ⟨r35, m35, hc35, h⟩ := fn_bi_s h
        refine pw_callSi (rest := []) C (ct_X6_in l C.2.2.2.2.2.2.2.2 hc35) (va_cwS 3 C.2.2.2.2.1 gX6_fits_X6_in rfl rfl rfl (by decide +kernel) ⟨Nat.le_of_ble_eq_true rfl, Nat.le_of_ble_eq_true rfl⟩) rfl rfl (Nat.le_of_ble_eq_true rfl) dX6_fits_35 ?_
        refine pw_if_ne (tgt := 44) C dX6_fits_38 (by decide) (fun c38 => ?_) (fun c38 => ?_)
        · have h := fn_pos c38 h
          refine pw_aload_n C dX6_fits_44 rfl 0 rfl ?_
          refine pw_iload_n C dX6_fits_45 rfl 2 rfl ?_
          refine pw_iload_n C dX6_fits_46 rfl 3 rfl ?_
          refine pw_iload C dX6_fits_47 4 rfl ?_
          obtain ⟨r49, m49, hc49, h⟩ := fn_bi_s h
          refine pw_callVi (rest := []) C (by decide) (pw_sh_54 _) rfl (ct_X6_against l C.2.2.2.2.2.2.2.2 hc49) (cwV 3 C.2.2.2.2.1 gX6_fits_X6_against rfl rfl rfl (by decide +kernel) ⟨Nat.le_of_ble_eq_true rfl, Nat.le_of_ble_eq_true rfl⟩) rfl rfl (Nat.le_of_ble_eq_true rfl) dX6_fits_49 ?_
          refine pw_istore (lv' := [(6, .int r49), (0, .ref (gad G 54)), (1, .int a1), (2, .int a2), (3, .int a3), (4, .int a4), (5, .int a5)]) C dX6_fits_52 (by decide) rfl ?_
          refine pw_iload C dX6_fits_54 0 rfl ?_
          refine pw_if_le (tgt := 66) C dX6_fits_56 (by decide) (fun c56 => ?_) (fun c56 => ?_)
          · have h := fn_pos c56 h
            refine pw_aload_n C dX6_fits_66 rfl 1 rfl ?_
            refine pw_iconst (v := (0 : Int32)) C dX6_fits_67 (by decide) ?_
            refine pw_put (host := "PulpitRoads") (ty := .int) C iX6 tyX6 tyX6_ok nmX6 (by decide) (pw_sh_54 _) rfl 5 (by decide) (pw_sh_54 _) k4 rfl (by decide +kernel) (fn_int _) (Nat.le_of_ble_eq_true rfl) dX6_fits_68 ?_
            refine pw_iconst (v := (0 : Int32)) C dX6_fits_71 (by decide) ?_
            refine pw_istore (lv' := [(7, .int (0 : Int32)), (6, .int r49), (0, .ref (gad G 54)), (1, .int a1), (2, .int a2), (3, .int a3), (4, .int a4), (5, .int a5)]) C dX6_fits_72 (by decide) rfl ?_
            refine pw_iload C dX6_fits_74 7 rfl ?_
            refine fn_jn1_s (fun x113_0 m113 => pw_Go p l e ({ frames := 5, cells := 0, slots := 0, locals := 127 }) s m (([.ref (gad G 54), .int a1, .int a2, .int a3, .int a4, .int a5] : List Value).toArray) below meth c (MQ below (va_Qi (fun (r1 : Int32) (u : pw_Mem) => r1 = r ∧ u = μ') (pw_B G) (gA G)) (([.ref (gad G 54), .int a1, .int a2, .int a3, .int a4, .int a5] : List Value).toArray) s 0 0 (gA G)) G 11 113 [(0, .ref (gad G 54)), (1, .int a1), (2, .int a2), (3, .int a3), (4, .int a4), (5, .int a5), (7, .int (0 : Int32))] [.int x113_0] m113) h (fun x113_0 m113 h => ?_) (fun k113 hk113 h => ?_)
            · refine pw_istore (lv' := [(8, .int x113_0), (0, .ref (gad G 54)), (1, .int a1), (2, .int a2), (3, .int a3), (4, .int a4), (5, .int a5), (7, .int (0 : Int32))]) C dX6_fits_113 (by decide) rfl ?_
              refine pw_iload C dX6_fits_115 6 rfl ?_
              refine fn_jn1_s (fun x149_0 m149 => pw_Go p l e ({ frames := 5, cells := 0, slots := 0, locals := 127 }) s m (([.ref (gad G 54), .int a1, .int a2, .int a3, .int a4, .int a5] : List Value).toArray) below meth c (MQ below (va_Qi (fun (r1 : Int32) (u : pw_Mem) => r1 = r ∧ u = μ') (pw_B G) (gA G)) (([.ref (gad G 54), .int a1, .int a2, .int a3, .int a4, .int a5] : List Value).toArray) s 0 0 (gA G)) G 11 149 [(0, .ref (gad G 54)), (1, .int a1), (2, .int a2), (3, .int a3), (4, .int a4), (5, .int a5), (7, .int (0 : Int32)), (8, .int x113_0)] [.int x149_0] m149) h (fun x149_0 m149 h => ?_) (fun k149 hk149 h => ?_)
              · refine pw_istore (lv' := [(9, .int x149_0), (0, .ref (gad G 54)), (1, .int a1), (2, .int a2), (3, .int a3), (4, .int a4), (5, .int a5), (7, .int (0 : Int32)), (8, .int x113_0)]) C dX6_fits_149 (by decide) rfl ?_
                refine pw_iload C dX6_fits_151 6 rfl ?_
                refine fn_jn1_s (fun x161_0 m161 => pw_Go p l e ({ frames := 5, cells := 0, slots := 0, locals := 127 }) s m (([.ref (gad G 54), .int a1, .int a2, .int a3, .int a4, .int a5] : List Value).toArray) below meth c (MQ below (va_Qi (fun (r1 : Int32) (u : pw_Mem) => r1 = r ∧ u = μ') (pw_B G) (gA G)) (([.ref (gad G 54), .int a1, .int a2, .int a3, .int a4, .int a5] : List Value).toArray) s 0 0 (gA G)) G 11 161 [(0, .ref (gad G 54)), (1, .int a1), (2, .int a2), (3, .int a3), (4, .int a4), (7, .int (0 : Int32)), (8, .int x113_0), (9, .int x149_0)] [.int x161_0] m161) h (fun x161_0 m161 h => ?_) (fun k161 hk161 h => ?_)
                · refine pw_istore (lv' := [(10, .int x161_0), (0, .ref (gad G 54)), (1, .int a1), (2, .int a2), (3, .int a3), (4, .int a4), (7, .int (0 : Int32)), (8, .int x113_0), (9, .int x149_0)]) C dX6_fits_161 (by decide) rfl ?_
                  have L163 : ∀ (k : Int32 → pw_Mem → Option (Int32 × pw_Mem)) (hk : ∀ (v7 : Int32) (m1 : pw_Mem), k v7 m1 = some (r, μ') → pw_Go p l e ({ frames := 5, cells := 0, slots := 0, locals := 127 }) s m (([.ref (gad G 54), .int a1, .int a2, .int a3, .int a4, .int a5] : List Value).toArray) below meth c (MQ below (va_Qi (fun (r1 : Int32) (u : pw_Mem) => r1 = r ∧ u = μ') (pw_B G) (gA G)) (([.ref (gad G 54), .int a1, .int a2, .int a3, .int a4, .int a5] : List Value).toArray) s 0 0 (gA G)) G 11 221 [(7, .int v7)] [] m1) (n : Nat) (v7 : Int32) (v10 : Int32) (m1 : pw_Mem), fl_X6_fits_163 k a1 a2 a3 a4 x113_0 x149_0 n v7 v10 m1 = some (r, μ') → pw_Go p l e ({ frames := 5, cells := 0, slots := 0, locals := 127 }) s m (([.ref (gad G 54), .int a1, .int a2, .int a3, .int a4, .int a5] : List Value).toArray) below meth c (MQ below (va_Qi (fun (r1 : Int32) (u : pw_Mem) => r1 = r ∧ u = μ') (pw_B G) (gA G)) (([.ref (gad G 54), .int a1, .int a2, .int a3, .int a4, .int a5] : List Value).toArray) s 0 0 (gA G)) G 11 163 [(0, .ref (gad G 54)), (1, .int a1), (2, .int a2), (3, .int a3), (4, .int a4), (7, .int v7), (8, .int x113_0), (9, .int x149_0), (10, .int v10)] [] m1 := by
                    intro k hk n
                    induction n with
                    | zero => intro v7 v10 m1 h; exact nomatch (show (none : Option (Int32 × pw_Mem)) = some _ from h)
                    | succ n ih =>
                      intro v7 v10 m1 h
                      rw [fl_X6_fits_163] at h
                      refine pw_iload C dX6_fits_163 8 rfl ?_
                      refine pw_iload C dX6_fits_165 7 rfl ?_
                      refine pw_icmp_gt (tgt := 221) C dX6_fits_167 (by decide) (fun c167 => ?_) (fun c167 => ?_)
                      · have h := fn_pos c167 h
                        refine pw_sub [5] rfl ?_
                        exact hk _ _ h
                      · have h := fn_neg c167 h
                        refine pw_aload_n C dX6_fits_170 rfl 0 rfl ?_
                        obtain ⟨m171, hc171, h⟩ := fn_bv_s h
                        refine pw_callVv (rest := []) C (by decide) (pw_sh_54 _) rfl (ct_X6_tries l C.2.2.2.2.2.2.2.2 hc171) (cwV 0 C.2.2.2.2.1 gX6_fits_X6_tries rfl rfl rfl (by decide +kernel) ⟨Nat.le_of_ble_eq_true rfl, Nat.le_of_ble_eq_true rfl⟩) rfl rfl (Nat.le_of_ble_eq_true rfl) dX6_fits_171 ?_
                        refine pw_aload_n C dX6_fits_174 rfl 0 rfl ?_
                        refine pw_get (v := .ref (gad G 55)) C iX6 (by decide) (pw_sh_54 _) rfl 0 (by decide) k5 rfl dX6_fits_175 ?_
                        refine pw_bipush (v := (38 : Int32)) C dX6_fits_178 (by decide) ?_
                        refine pw_iload C dX6_fits_180 6 rfl ?_
                        refine pw_iadd C dX6_fits_182 ?_
                        refine pw_iload C dX6_fits_183 8 rfl ?_
                        obtain ⟨hi185, h⟩ := fn_ix_s h
                        refine pw_iast C (by decide) pw_sh_55 hi185 dX6_fits_185 ?_
                        refine pw_iload C dX6_fits_186 5 rfl ?_
                        refine pw_aload_n C dX6_fits_188 rfl 0 rfl ?_
                        refine pw_iload_n C dX6_fits_189 rfl 1 rfl ?_
                        refine pw_bipush (v := (40 : Int32)) C dX6_fits_190 (by decide) ?_
                        refine pw_iload_n C dX6_fits_192 rfl 2 rfl ?_
                        refine pw_imul C dX6_fits_193 ?_
                        refine pw_iload_n C dX6_fits_194 rfl 3 rfl ?_
                        refine pw_iadd C dX6_fits_195 ?_
                        refine pw_iload C dX6_fits_196 4 rfl ?_
                        obtain ⟨r198, m198, hc198, h⟩ := fn_bi_s h
                        refine pw_callVi (rest := [.int v7]) C (by decide) (pw_sh_54 _) rfl (ct_X6_isSo l C.2.2.2.2.2.2.2.2 hc198) (cwV 3 C.2.2.2.2.1 gX6_fits_X6_isSo rfl rfl rfl (by decide +kernel) ⟨Nat.le_of_ble_eq_true rfl, Nat.le_of_ble_eq_true rfl⟩) rfl rfl (Nat.le_of_ble_eq_true rfl) dX6_fits_198 ?_
                        refine fn_jn1_s (fun x212_0 m212 => pw_Go p l e ({ frames := 5, cells := 0, slots := 0, locals := 127 }) s m (([.ref (gad G 54), .int a1, .int a2, .int a3, .int a4, .int a5] : List Value).toArray) below meth c (MQ below (va_Qi (fun (r1 : Int32) (u : pw_Mem) => r1 = r ∧ u = μ') (pw_B G) (gA G)) (([.ref (gad G 54), .int a1, .int a2, .int a3, .int a4, .int a5] : List Value).toArray) s 0 0 (gA G)) G 11 212 [(0, .ref (gad G 54)), (1, .int a1), (2, .int a2), (3, .int a3), (4, .int a4), (8, .int x113_0), (9, .int x149_0), (10, .int v10)] [.int x212_0, .int v7] m212) h (fun x212_0 m212 h => ?_) (fun k212 hk212 h => ?_)
                        · refine pw_ior C dX6_fits_212 ?_
                          refine pw_istore (lv' := [(7, .int (v7 ||| x212_0)), (0, .ref (gad G 54)), (1, .int a1), (2, .int a2), (3, .int a3), (4, .int a4), (8, .int x113_0), (9, .int x149_0), (10, .int v10)]) C dX6_fits_213 (by decide) rfl ?_
                          refine pw_iinc (v := (v10 + 1)) (lv' := [(10, .int (v10 + 1)), (7, .int (v7 ||| x212_0)), (0, .ref (gad G 54)), (1, .int a1), (2, .int a2), (3, .int a3), (4, .int a4), (8, .int x113_0), (9, .int x149_0)]) C dX6_fits_215 (q := 8) rfl rfl (by decide) rfl ?_
                          refine pw_goto (tgt := 163) C dX6_fits_218 (by decide) ?_
                          refine pw_sub [2, 3, 4, 5, 6, 1, 7, 8, 0] rfl ?_
                          exact ih _ _ _ h
                        · refine pw_if_eq (tgt := 211) C dX6_fits_201 (by decide) (fun c201 => ?_) (fun c201 => ?_)
                          · have h := fn_pos c201 h
                            refine pw_iconst (v := (0 : Int32)) C dX6_fits_211 (by decide) ?_
                            refine pw_sub [0, 1, 2, 3, 4, 6, 7, 8] rfl ?_
                            exact hk212 _ _ h
                          · have h := fn_neg c201 h
                            refine pw_iconst (v := (1 : Int32)) C dX6_fits_204 (by decide) ?_
                            refine pw_iload C dX6_fits_205 8 rfl ?_
                            refine pw_ishl C dX6_fits_207 ?_
                            refine pw_goto (tgt := 212) C dX6_fits_208 (by decide) ?_
                            refine pw_sub [0, 1, 2, 3, 4, 6, 7, 8] rfl ?_
                            exact hk212 _ _ h
                  refine pw_sub [1, 2, 3, 4, 5, 6, 7, 8, 0] rfl ?_
                  refine L163 _ (fun y163_7 m221 h => ?_) _ _ _ _ h
                  refine pw_iload C dX6_fits_221 0 rfl ?_
                  exact pw_iret C h dX6_fits_223
                · refine pw_if_ne (tgt := 160) C dX6_fits_153 (by decide) (fun c153 => ?_) (fun c153 => ?_)
                  · have h := fn_pos c153 h
                    refine pw_iconst (v := (0 : Int32)) C dX6_fits_160 (by decide) ?_
                    refine pw_sub [1, 2, 3, 4, 5, 7, 8, 0] rfl ?_
                    exact hk161 _ _ h
                  · have h := fn_neg c153 h
                    refine pw_iconst (v := (1 : Int32)) C dX6_fits_156 (by decide) ?_
                    refine pw_goto (tgt := 161) C dX6_fits_157 (by decide) ?_
                    refine pw_sub [1, 2, 3, 4, 5, 7, 8, 0] rfl ?_
                    exact hk161 _ _ h
              · refine pw_if_ne (tgt := 124) C dX6_fits_117 (by decide) (fun c117 => ?_) (fun c117 => ?_)
                · have h := fn_pos c117 h
                  refine pw_iload C dX6_fits_124 6 rfl ?_
                  refine pw_iconst (v := (1 : Int32)) C dX6_fits_126 (by decide) ?_
                  refine pw_icmp_ne (tgt := 141) C dX6_fits_127 (by decide) (fun c127 => ?_) (fun c127 => ?_)
                  · have h := fn_pos c127 h
                    refine pw_aload_n C dX6_fits_141 rfl 1 rfl ?_
                    refine pw_get (v := .ref (gad G 55)) C iX6 (by decide) (pw_sh_54 _) rfl 0 (by decide) k5 rfl dX6_fits_142 ?_
                    refine pw_iconst (v := (2 : Int32)) C dX6_fits_145 (by decide) ?_
                    obtain ⟨hi146, h⟩ := fn_ix_s h
                    refine pw_iald C (by decide) (pw_sh_55 _) hi146 dX6_fits_146 ?_
                    refine pw_iconst (v := (1 : Int32)) C dX6_fits_147 (by decide) ?_
                    refine pw_isub C dX6_fits_148 ?_
                    refine pw_sub [1, 2, 3, 4, 5, 6, 7, 0] rfl ?_
                    exact hk149 _ _ h
                  · have h := fn_neg c127 h
                    refine pw_aload_n C dX6_fits_130 rfl 1 rfl ?_
                    refine pw_get (v := .ref (gad G 55)) C iX6 (by decide) (pw_sh_54 _) rfl 0 (by decide) k5 rfl dX6_fits_131 ?_
                    refine pw_iconst (v := (0 : Int32)) C dX6_fits_134 (by decide) ?_
                    obtain ⟨hi135, h⟩ := fn_ix_s h
                    refine pw_iald C (by decide) (pw_sh_55 _) hi135 dX6_fits_135 ?_
                    refine pw_iconst (v := (1 : Int32)) C dX6_fits_136 (by decide) ?_
                    refine pw_isub C dX6_fits_137 ?_
                    refine pw_goto (tgt := 149) C dX6_fits_138 (by decide) ?_
                    refine pw_sub [1, 2, 3, 4, 5, 6, 7, 0] rfl ?_
                    exact hk149 _ _ h
                · have h := fn_neg c117 h
                  refine pw_iconst (v := (5 : Int32)) C dX6_fits_120 (by decide) ?_
                  refine pw_goto (tgt := 149) C dX6_fits_121 (by decide) ?_
                  refine pw_sub [1, 2, 3, 4, 5, 6, 7, 0] rfl ?_
                  exact hk149 _ _ h
            · refine pw_if_ne (tgt := 86) C dX6_fits_76 (by decide) (fun c76 => ?_) (fun c76 => ?_)
              · have h := fn_pos c76 h
                refine pw_iload C dX6_fits_86 7 rfl ?_
                refine pw_iconst (v := (1 : Int32)) C dX6_fits_88 (by decide) ?_
                refine pw_icmp_ne (tgt := 99) C dX6_fits_89 (by decide) (fun c89 => ?_) (fun c89 => ?_)
                · have h := fn_pos c89 h
                  refine pw_iload C dX6_fits_99 7 rfl ?_
                  refine pw_iconst (v := (2 : Int32)) C dX6_fits_101 (by decide) ?_
                  refine pw_icmp_ne (tgt := 109) C dX6_fits_102 (by decide) (fun c102 => ?_) (fun c102 => ?_)
                  · have h := fn_pos c102 h
                    refine pw_bipush (v := (24 : Int32)) C dX6_fits_109 (by decide) ?_
                    refine pw_iload_n C dX6_fits_111 rfl 3 rfl ?_
                    refine pw_iadd C dX6_fits_112 ?_
                    refine pw_sub [2, 3, 4, 5, 6, 7, 0] rfl ?_
                    exact hk113 _ _ h
                  · have h := fn_neg c102 h
                    refine pw_iconst (v := (3 : Int32)) C dX6_fits_105 (by decide) ?_
                    refine pw_goto (tgt := 113) C dX6_fits_106 (by decide) ?_
                    refine pw_sub [2, 3, 4, 5, 6, 7, 0] rfl ?_
                    exact hk113 _ _ h
                · have h := fn_neg c89 h
                  refine pw_bipush (v := (19 : Int32)) C dX6_fits_92 (by decide) ?_
                  refine pw_iload_n C dX6_fits_94 rfl 3 rfl ?_
                  refine pw_iadd C dX6_fits_95 ?_
                  refine pw_goto (tgt := 113) C dX6_fits_96 (by decide) ?_
                  refine pw_sub [2, 3, 4, 5, 6, 7, 0] rfl ?_
                  exact hk113 _ _ h
              · have h := fn_neg c76 h
                refine pw_bipush (v := (13 : Int32)) C dX6_fits_79 (by decide) ?_
                refine pw_iload_n C dX6_fits_81 rfl 3 rfl ?_
                refine pw_iadd C dX6_fits_82 ?_
                refine pw_goto (tgt := 113) C dX6_fits_83 (by decide) ?_
                refine pw_sub [2, 3, 4, 5, 6, 7, 0] rfl ?_
                exact hk113 _ _ h
          · have h := fn_neg c56 h
            refine pw_aload_n C dX6_fits_59 rfl 1 rfl ?_
            refine pw_iload C dX6_fits_60 0 rfl ?_
            obtain ⟨r62, m62, hc62, h⟩ := fn_bi_s h
            refine pw_callVi (rest := []) C (by decide) (pw_sh_54 _) rfl (ct_X6_finds l C.2.2.2.2.2.2.2.2 hc62) (cwV 1 C.2.2.2.2.1 gX6_fits_X6_finds rfl rfl rfl (by decide +kernel) ⟨Nat.le_of_ble_eq_true rfl, Nat.le_of_ble_eq_true rfl⟩) rfl rfl (Nat.le_of_ble_eq_true rfl) dX6_fits_62 ?_
            exact pw_iret C h dX6_fits_65
        · have h := fn_neg c38 h
          refine pw_ldc C k3 dX6_fits_41 ?_
          exact pw_iret C h dX6_fits_43
set_option maxHeartbeats 4000000 in
set_option maxRecDepth 100000 in
theorem ct_X6_axles (l : Launch) {G : pw_G} (hG : pw_Ok G) {a1 : Int32} {a2 : Int32} {a3 : Int32} {a4 : Int32}  {μ μ' : pw_Mem} {r : Int32} (h : fn_X6_axles a1 a2 a3 a4 μ = some (r, μ')) : Met l yX6_axles wsX6_axles ({ frames := 4, cells := 0, slots := 0, locals := 102 }) (va_Pc [.ref (gad G 54), .int a1, .int a2, .int a3, .int a4] (pw_Pre G μ)) (va_Qi (fun (r1 : Int32) (u : pw_Mem) => r1 = r ∧ u = μ') (pw_B G) (gA G)) 0 0 (gA G) := by
  refine pw_met (lv := [(0, .ref (gad G 54)), (1, .int a1), (2, .int a2), (3, .int a3), (4, .int a4)]) (own := RX6) (cc := cX6_axles) (maxL := 10) (ret := some .int) hG rfl (by decide) rfl rfl (Nat.le_of_ble_eq_true rfl) ?_
  intro p e s m below meth c C
  have iX6 : ∀ w ∈ u_ws RX6 TX6 16, w ∈ wsX6_axles := fun _ h => List.mem_cons_of_mem _ (List.mem_append_right _ (h))
  have k1 := C.2.2.2.2.1 (.fieldLink RX6 7 "PulpitRoadsModel" "w" "[I") (List.mem_cons_of_mem _ (List.mem_append_left _ (List.mem_append_left _ (List.mem_of_getElem? (i := 0) rfl))))
  have k2 := C.2.2.2.2.1 (.constantLong RX6 195 (10)) (List.mem_cons_of_mem _ (List.mem_append_left _ (List.mem_append_left _ (List.mem_of_getElem? (i := 1) rfl))))
  have k3 := C.2.2.2.2.1 (.constant RX6 51 (-1000001)) (List.mem_cons_of_mem _ (List.mem_append_left _ (List.mem_append_left _ (List.mem_of_getElem? (i := 2) rfl))))
  unfold fn_X6_axles at h
  refine pw_aload_n C dX6_axles_0 rfl 0 rfl ?_
  refine pw_iload_n C dX6_axles_1 rfl 1 rfl ?_
  obtain ⟨r2, m2, hc2, h⟩ := fn_bi_s h
  refine pw_callVi (rest := []) C (by decide) (pw_sh_54 _) rfl (ct_X6_isStretch l C.2.2.2.2.2.2.2.2 hc2) (cwV 1 C.2.2.2.2.1 gX6_axles_X6_isStretch rfl rfl rfl (by decide +kernel) ⟨Nat.le_of_ble_eq_true rfl, Nat.le_of_ble_eq_true rfl⟩) rfl rfl (Nat.le_of_ble_eq_true rfl) dX6_axles_2 ?_
  refine pw_if_eq (tgt := 49) C dX6_axles_5 (by decide) (fun c5 => ?_) (fun c5 => ?_)
  · have h := fn_pos c5 h
    refine pw_ldc C k3 dX6_axles_49 ?_
    exact pw_iret C h dX6_axles_51
  · have h := fn_neg c5 h
    refine pw_iload_n C dX6_axles_8 rfl 2 rfl ?_
    refine pw_i2l C dX6_axles_9 ?_
    refine pw_lconst (v := (0 : Int64)) C dX6_axles_10 (by decide) ?_
    refine pw_aload_n C dX6_axles_11 rfl 0 rfl ?_
    refine pw_get (v := .ref (gad G 55)) C iX6 (by decide) (pw_sh_54 _) rfl 0 (by decide) k1 rfl dX6_axles_12 ?_
    refine pw_iconst (v := (2 : Int32)) C dX6_axles_15 (by decide) ?_
    obtain ⟨hi16, h⟩ := fn_ix_s h
    refine pw_iald C (by decide) (pw_sh_55 _) hi16 dX6_axles_16 ?_
    refine pw_iconst (v := (1 : Int32)) C dX6_axles_17 (by decide) ?_
    refine pw_isub C dX6_axles_18 ?_
    refine pw_i2l C dX6_axles_19 ?_
    obtain ⟨r20, m20, hc20, h⟩ := fn_bi_s h
    refine pw_callSi (rest := []) C (ct_X6_in l C.2.2.2.2.2.2.2.2 hc20) (va_cwS 3 C.2.2.2.2.1 gX6_axles_X6_in rfl rfl rfl (by decide +kernel) ⟨Nat.le_of_ble_eq_true rfl, Nat.le_of_ble_eq_true rfl⟩) rfl rfl (Nat.le_of_ble_eq_true rfl) dX6_axles_20 ?_
    refine pw_if_eq (tgt := 49) C dX6_axles_23 (by decide) (fun c23 => ?_) (fun c23 => ?_)
    · have h := fn_pos c23 h
      refine pw_ldc C k3 dX6_axles_49 ?_
      exact pw_iret C h dX6_axles_51
    · have h := fn_neg c23 h
      refine pw_iload_n C dX6_axles_26 rfl 3 rfl ?_
      refine pw_i2l C dX6_axles_27 ?_
      refine pw_lconst (v := (0 : Int64)) C dX6_axles_28 (by decide) ?_
      refine pw_ldc2 C k2 dX6_axles_29 ?_
      obtain ⟨r32, m32, hc32, h⟩ := fn_bi_s h
      refine pw_callSi (rest := []) C (ct_X6_in l C.2.2.2.2.2.2.2.2 hc32) (va_cwS 3 C.2.2.2.2.1 gX6_axles_X6_in rfl rfl rfl (by decide +kernel) ⟨Nat.le_of_ble_eq_true rfl, Nat.le_of_ble_eq_true rfl⟩) rfl rfl (Nat.le_of_ble_eq_true rfl) dX6_axles_32 ?_
      refine pw_if_eq (tgt := 49) C dX6_axles_35 (by decide) (fun c35 => ?_) (fun c35 => ?_)
      · have h := fn_pos c35 h
        refine pw_ldc C k3 dX6_axles_49 ?_
        exact pw_iret C h dX6_axles_51
      · have h := fn_neg c35 h
        refine pw_iload C dX6_axles_38 4 rfl ?_
        refine pw_i2l C dX6_axles_40 ?_
        refine pw_lconst (v := (0 : Int64)) C dX6_axles_41 (by decide) ?_
        refine pw_lconst (v := (1 : Int64)) C dX6_axles_42 (by decide) ?_
        obtain ⟨r43, m43, hc43, h⟩ := fn_bi_s h
        refine pw_callSi (rest := []) C (ct_X6_in l C.2.2.2.2.2.2.2.2 hc43) (va_cwS 3 C.2.2.2.2.1 gX6_axles_X6_in rfl rfl rfl (by decide +kernel) ⟨Nat.le_of_ble_eq_true rfl, Nat.le_of_ble_eq_true rfl⟩) rfl rfl (Nat.le_of_ble_eq_true rfl) dX6_axles_43 ?_
        refine pw_if_ne (tgt := 52) C dX6_axles_46 (by decide) (fun c46 => ?_) (fun c46 => ?_)
        · have h := fn_pos c46 h
          refine pw_iconst (v := (0 : Int32)) C dX6_axles_52 (by decide) ?_
          refine pw_istore (lv' := [(5, .int (0 : Int32)), (0, .ref (gad G 54)), (1, .int a1), (2, .int a2), (3, .int a3), (4, .int a4)]) C dX6_axles_53 (by decide) rfl ?_
          refine pw_iconst (v := (1 : Int32)) C dX6_axles_55 (by decide) ?_
          refine pw_istore (lv' := [(6, .int (1 : Int32)), (5, .int (0 : Int32)), (0, .ref (gad G 54)), (1, .int a1), (2, .int a2), (3, .int a3), (4, .int a4)]) C dX6_axles_56 (by decide) rfl ?_
          refine pw_iconst (v := (0 : Int32)) C dX6_axles_58 (by decide) ?_
          refine pw_istore (lv' := [(7, .int (0 : Int32)), (6, .int (1 : Int32)), (5, .int (0 : Int32)), (0, .ref (gad G 54)), (1, .int a1), (2, .int a2), (3, .int a3), (4, .int a4)]) C dX6_axles_59 (by decide) rfl ?_
          have L61 : ∀ (k : Int32 → pw_Mem → Option (Int32 × pw_Mem)) (hk : ∀ (v6 : Int32) (m1 : pw_Mem), k v6 m1 = some (r, μ') → pw_Go p l e ({ frames := 4, cells := 0, slots := 0, locals := 102 }) s m (([.ref (gad G 54), .int a1, .int a2, .int a3, .int a4] : List Value).toArray) below meth c (MQ below (va_Qi (fun (r1 : Int32) (u : pw_Mem) => r1 = r ∧ u = μ') (pw_B G) (gA G)) (([.ref (gad G 54), .int a1, .int a2, .int a3, .int a4] : List Value).toArray) s 0 0 (gA G)) G 10 85 [(0, .ref (gad G 54)), (1, .int a1), (2, .int a2), (3, .int a3), (4, .int a4), (5, .int (0 : Int32)), (6, .int v6)] [] m1) (n : Nat) (v6 : Int32) (v7 : Int32) (m1 : pw_Mem), fl_X6_axles_61 k a1 a2 a3 a4 (0 : Int32) n v6 v7 m1 = some (r, μ') → pw_Go p l e ({ frames := 4, cells := 0, slots := 0, locals := 102 }) s m (([.ref (gad G 54), .int a1, .int a2, .int a3, .int a4] : List Value).toArray) below meth c (MQ below (va_Qi (fun (r1 : Int32) (u : pw_Mem) => r1 = r ∧ u = μ') (pw_B G) (gA G)) (([.ref (gad G 54), .int a1, .int a2, .int a3, .int a4] : List Value).toArray) s 0 0 (gA G)) G 10 61 [(0, .ref (gad G 54)), (1, .int a1), (2, .int a2), (3, .int a3), (4, .int a4), (5, .int (0 : Int32)), (6, .int v6), (7, .int v7)] [] m1 := by
            intro k hk n
            induction n with
            | zero => intro v6 v7 m1 h; exact nomatch (show (none : Option (Int32 × pw_Mem)) = some _ from h)
            | succ n ih =>
              intro v6 v7 m1 h
              rw [fl_X6_axles_61] at h
              refine pw_iload C dX6_axles_61 7 rfl ?_
              refine pw_aload_n C dX6_axles_63 rfl 0 rfl ?_
              refine pw_get (v := .ref (gad G 55)) C iX6 (by decide) (pw_sh_54 _) rfl 0 (by decide) k1 rfl dX6_axles_64 ?_
              refine pw_iconst (v := (1 : Int32)) C dX6_axles_67 (by decide) ?_
              obtain ⟨hi68, h⟩ := fn_ix_s h
              refine pw_iald C (by decide) (pw_sh_55 _) hi68 dX6_axles_68 ?_
              refine pw_icmp_ge (tgt := 85) C dX6_axles_69 (by decide) (fun c69 => ?_) (fun c69 => ?_)
              · have h := fn_pos c69 h
                refine pw_sub [0, 1, 2, 3, 4, 5, 6] rfl ?_
                exact hk _ _ h
              · have h := fn_neg c69 h
                refine pw_iload C dX6_axles_72 6 rfl ?_
                refine pw_bipush (v := (10 : Int32)) C dX6_axles_74 (by decide) ?_
                refine pw_imul C dX6_axles_76 ?_
                refine pw_istore (lv' := [(6, .int (v6 * (10 : Int32))), (0, .ref (gad G 54)), (1, .int a1), (2, .int a2), (3, .int a3), (4, .int a4), (5, .int (0 : Int32)), (7, .int v7)]) C dX6_axles_77 (by decide) rfl ?_
                refine pw_iinc (v := (v7 + 1)) (lv' := [(7, .int (v7 + 1)), (6, .int (v6 * (10 : Int32))), (0, .ref (gad G 54)), (1, .int a1), (2, .int a2), (3, .int a3), (4, .int a4), (5, .int (0 : Int32))]) C dX6_axles_79 (q := 7) rfl rfl (by decide) rfl ?_
                refine pw_goto (tgt := 61) C dX6_axles_82 (by decide) ?_
                refine pw_sub [2, 3, 4, 5, 6, 7, 1, 0] rfl ?_
                exact ih _ _ _ h
          refine pw_sub [3, 4, 5, 6, 7, 2, 1, 0] rfl ?_
          refine L61 _ (fun y61_6 m85 h => ?_) _ _ _ _ h
          refine pw_iconst (v := (0 : Int32)) C dX6_axles_85 (by decide) ?_
          refine pw_istore (lv' := [(7, .int (0 : Int32)), (0, .ref (gad G 54)), (1, .int a1), (2, .int a2), (3, .int a3), (4, .int a4), (5, .int (0 : Int32)), (6, .int y61_6)]) C dX6_axles_86 (by decide) rfl ?_
          have L88 : ∀ (k : Int32 → pw_Mem → Option (Int32 × pw_Mem)) (hk : ∀ (v5 : Int32) (m1 : pw_Mem), k v5 m1 = some (r, μ') → pw_Go p l e ({ frames := 4, cells := 0, slots := 0, locals := 102 }) s m (([.ref (gad G 54), .int a1, .int a2, .int a3, .int a4] : List Value).toArray) below meth c (MQ below (va_Qi (fun (r1 : Int32) (u : pw_Mem) => r1 = r ∧ u = μ') (pw_B G) (gA G)) (([.ref (gad G 54), .int a1, .int a2, .int a3, .int a4] : List Value).toArray) s 0 0 (gA G)) G 10 192 [(4, .int a4), (5, .int v5), (6, .int y61_6)] [] m1) (n : Nat) (v5 : Int32) (v7 : Int32) (m1 : pw_Mem), fl_X6_axles_88 k a1 a2 a3 a4 y61_6 n v5 v7 m1 = some (r, μ') → pw_Go p l e ({ frames := 4, cells := 0, slots := 0, locals := 102 }) s m (([.ref (gad G 54), .int a1, .int a2, .int a3, .int a4] : List Value).toArray) below meth c (MQ below (va_Qi (fun (r1 : Int32) (u : pw_Mem) => r1 = r ∧ u = μ') (pw_B G) (gA G)) (([.ref (gad G 54), .int a1, .int a2, .int a3, .int a4] : List Value).toArray) s 0 0 (gA G)) G 10 88 [(0, .ref (gad G 54)), (1, .int a1), (2, .int a2), (3, .int a3), (4, .int a4), (5, .int v5), (6, .int y61_6), (7, .int v7)] [] m1 := by
            intro k hk n
            induction n with
            | zero => intro v5 v7 m1 h; exact nomatch (show (none : Option (Int32 × pw_Mem)) = some _ from h)
            | succ n ih =>
              intro v5 v7 m1 h
              rw [fl_X6_axles_88] at h
              refine pw_iload C dX6_axles_88 7 rfl ?_
              refine pw_iconst (v := (1 : Int32)) C dX6_axles_90 (by decide) ?_
              refine pw_aload_n C dX6_axles_91 rfl 0 rfl ?_
              refine pw_get (v := .ref (gad G 55)) C iX6 (by decide) (pw_sh_54 _) rfl 0 (by decide) k1 rfl dX6_axles_92 ?_
              refine pw_iconst (v := (1 : Int32)) C dX6_axles_95 (by decide) ?_
              obtain ⟨hi96, h⟩ := fn_ix_s h
              refine pw_iald C (by decide) (pw_sh_55 _) hi96 dX6_axles_96 ?_
              refine pw_ishl C dX6_axles_97 ?_
              refine pw_icmp_ge (tgt := 192) C dX6_axles_98 (by decide) (fun c98 => ?_) (fun c98 => ?_)
              · have h := fn_pos c98 h
                refine pw_sub [4, 5, 6] rfl ?_
                exact hk _ _ h
              · have h := fn_neg c98 h
                refine pw_iconst (v := (1 : Int32)) C dX6_axles_101 (by decide) ?_
                refine pw_istore (lv' := [(8, .int (1 : Int32)), (0, .ref (gad G 54)), (1, .int a1), (2, .int a2), (3, .int a3), (4, .int a4), (5, .int v5), (6, .int y61_6), (7, .int v7)]) C dX6_axles_102 (by decide) rfl ?_
                refine pw_iconst (v := (0 : Int32)) C dX6_axles_104 (by decide) ?_
                refine pw_istore (lv' := [(9, .int (0 : Int32)), (8, .int (1 : Int32)), (0, .ref (gad G 54)), (1, .int a1), (2, .int a2), (3, .int a3), (4, .int a4), (5, .int v5), (6, .int y61_6), (7, .int v7)]) C dX6_axles_105 (by decide) rfl ?_
                have L107 : ∀ (k : Int32 → pw_Mem → Option (Int32 × pw_Mem)) (hk : ∀ (v8 : Int32) (m1 : pw_Mem), k v8 m1 = some (r, μ') → pw_Go p l e ({ frames := 4, cells := 0, slots := 0, locals := 102 }) s m (([.ref (gad G 54), .int a1, .int a2, .int a3, .int a4] : List Value).toArray) below meth c (MQ below (va_Qi (fun (r1 : Int32) (u : pw_Mem) => r1 = r ∧ u = μ') (pw_B G) (gA G)) (([.ref (gad G 54), .int a1, .int a2, .int a3, .int a4] : List Value).toArray) s 0 0 (gA G)) G 10 147 [(0, .ref (gad G 54)), (1, .int a1), (2, .int a2), (3, .int a3), (4, .int a4), (5, .int v5), (6, .int y61_6), (7, .int v7), (8, .int v8)] [] m1) (n : Nat) (v8 : Int32) (v9 : Int32) (m1 : pw_Mem), fl_X6_axles_107 k a1 a2 a3 a4 v5 y61_6 v7 n v8 v9 m1 = some (r, μ') → pw_Go p l e ({ frames := 4, cells := 0, slots := 0, locals := 102 }) s m (([.ref (gad G 54), .int a1, .int a2, .int a3, .int a4] : List Value).toArray) below meth c (MQ below (va_Qi (fun (r1 : Int32) (u : pw_Mem) => r1 = r ∧ u = μ') (pw_B G) (gA G)) (([.ref (gad G 54), .int a1, .int a2, .int a3, .int a4] : List Value).toArray) s 0 0 (gA G)) G 10 107 [(0, .ref (gad G 54)), (1, .int a1), (2, .int a2), (3, .int a3), (4, .int a4), (5, .int v5), (6, .int y61_6), (7, .int v7), (8, .int v8), (9, .int v9)] [] m1 := by
                  intro k hk n
                  induction n with
                  | zero => intro v8 v9 m1 h; exact nomatch (show (none : Option (Int32 × pw_Mem)) = some _ from h)
                  | succ n ih =>
                    intro v8 v9 m1 h
                    rw [fl_X6_axles_107] at h
                    refine pw_iload C dX6_axles_107 9 rfl ?_
                    refine pw_aload_n C dX6_axles_109 rfl 0 rfl ?_
                    refine pw_get (v := .ref (gad G 55)) C iX6 (by decide) (pw_sh_54 _) rfl 0 (by decide) k1 rfl dX6_axles_110 ?_
                    refine pw_iconst (v := (1 : Int32)) C dX6_axles_113 (by decide) ?_
                    obtain ⟨hi114, h⟩ := fn_ix_s h
                    refine pw_iald C (by decide) (pw_sh_55 _) hi114 dX6_axles_114 ?_
                    refine pw_icmp_ge (tgt := 147) C dX6_axles_115 (by decide) (fun c115 => ?_) (fun c115 => ?_)
                    · have h := fn_pos c115 h
                      refine pw_sub [0, 1, 2, 3, 4, 5, 6, 7, 8] rfl ?_
                      exact hk _ _ h
                    · have h := fn_neg c115 h
                      refine pw_iload C dX6_axles_118 8 rfl ?_
                      refine pw_iload C dX6_axles_120 7 rfl ?_
                      refine pw_iload C dX6_axles_122 9 rfl ?_
                      obtain ⟨r124, m124, hc124, h⟩ := fn_bi_s h
                      refine pw_callSi (rest := [.int v8]) C (ct_X6_has l C.2.2.2.2.2.2.2.2 hc124) (va_cwS 2 C.2.2.2.2.1 gX6_axles_X6_has rfl rfl rfl (by decide +kernel) ⟨Nat.le_of_ble_eq_true rfl, Nat.le_of_ble_eq_true rfl⟩) rfl rfl (Nat.le_of_ble_eq_true rfl) dX6_axles_124 ?_
                      refine fn_jn1_s (fun x138_0 m138 => pw_Go p l e ({ frames := 4, cells := 0, slots := 0, locals := 102 }) s m (([.ref (gad G 54), .int a1, .int a2, .int a3, .int a4] : List Value).toArray) below meth c (MQ below (va_Qi (fun (r1 : Int32) (u : pw_Mem) => r1 = r ∧ u = μ') (pw_B G) (gA G)) (([.ref (gad G 54), .int a1, .int a2, .int a3, .int a4] : List Value).toArray) s 0 0 (gA G)) G 10 138 [(0, .ref (gad G 54)), (1, .int a1), (2, .int a2), (3, .int a3), (4, .int a4), (5, .int v5), (6, .int y61_6), (7, .int v7), (9, .int v9)] [.int x138_0, .int v8] m138) h (fun x138_0 m138 h => ?_) (fun k138 hk138 h => ?_)
                      · refine pw_imul C dX6_axles_138 ?_
                        refine pw_istore (lv' := [(8, .int (v8 * x138_0)), (0, .ref (gad G 54)), (1, .int a1), (2, .int a2), (3, .int a3), (4, .int a4), (5, .int v5), (6, .int y61_6), (7, .int v7), (9, .int v9)]) C dX6_axles_139 (by decide) rfl ?_
                        refine pw_iinc (v := (v9 + 1)) (lv' := [(9, .int (v9 + 1)), (8, .int (v8 * x138_0)), (0, .ref (gad G 54)), (1, .int a1), (2, .int a2), (3, .int a3), (4, .int a4), (5, .int v5), (6, .int y61_6), (7, .int v7)]) C dX6_axles_141 (q := 9) rfl rfl (by decide) rfl ?_
                        refine pw_goto (tgt := 107) C dX6_axles_144 (by decide) ?_
                        refine pw_sub [2, 3, 4, 5, 6, 7, 8, 9, 1, 0] rfl ?_
                        exact ih _ _ _ h
                      · refine pw_if_eq (tgt := 134) C dX6_axles_127 (by decide) (fun c127 => ?_) (fun c127 => ?_)
                        · have h := fn_pos c127 h
                          refine pw_bipush (v := (10 : Int32)) C dX6_axles_134 (by decide) ?_
                          refine pw_iload_n C dX6_axles_136 rfl 3 rfl ?_
                          refine pw_isub C dX6_axles_137 ?_
                          refine pw_sub [0, 1, 2, 3, 4, 5, 6, 7, 9] rfl ?_
                          exact hk138 _ _ h
                        · have h := fn_neg c127 h
                          refine pw_iload_n C dX6_axles_130 rfl 3 rfl ?_
                          refine pw_goto (tgt := 138) C dX6_axles_131 (by decide) ?_
                          refine pw_sub [0, 1, 2, 3, 4, 5, 6, 7, 9] rfl ?_
                          exact hk138 _ _ h
                refine pw_sub [2, 3, 4, 5, 6, 7, 8, 9, 1, 0] rfl ?_
                refine L107 _ (fun y107_8 m147 h => ?_) _ _ _ _ h
                refine pw_aload_n C dX6_axles_147 rfl 0 rfl ?_
                obtain ⟨m148, hc148, h⟩ := fn_bv_s h
                refine pw_callVv (rest := []) C (by decide) (pw_sh_54 _) rfl (ct_X6_tries l C.2.2.2.2.2.2.2.2 hc148) (cwV 0 C.2.2.2.2.1 gX6_axles_X6_tries rfl rfl rfl (by decide +kernel) ⟨Nat.le_of_ble_eq_true rfl, Nat.le_of_ble_eq_true rfl⟩) rfl rfl (Nat.le_of_ble_eq_true rfl) dX6_axles_148 ?_
                refine pw_aload_n C dX6_axles_151 rfl 0 rfl ?_
                refine pw_bipush (v := (38 : Int32)) C dX6_axles_152 (by decide) ?_
                refine pw_iload C dX6_axles_154 7 rfl ?_
                obtain ⟨m156, hc156, h⟩ := fn_bv_s h
                refine pw_callVv (rest := []) C (by decide) (pw_sh_54 _) rfl (ct_X6_hourBy l C.2.2.2.2.2.2.2.2 hc156) (cwV 2 C.2.2.2.2.1 gX6_axles_X6_hourBy rfl rfl rfl (by decide +kernel) ⟨Nat.le_of_ble_eq_true rfl, Nat.le_of_ble_eq_true rfl⟩) rfl rfl (Nat.le_of_ble_eq_true rfl) dX6_axles_156 ?_
                refine pw_iload C dX6_axles_159 5 rfl ?_
                refine pw_aload_n C dX6_axles_161 rfl 0 rfl ?_
                refine pw_get (v := .ref (gad G 55)) C iX6 (by decide) (pw_sh_54 _) rfl 0 (by decide) k1 rfl dX6_axles_162 ?_
                refine pw_bipush (v := (67 : Int32)) C dX6_axles_165 (by decide) ?_
                refine pw_iload_n C dX6_axles_167 rfl 1 rfl ?_
                refine pw_iadd C dX6_axles_168 ?_
                obtain ⟨hi169, h⟩ := fn_ix_s h
                refine pw_iald C (by decide) (pw_sh_55 _) hi169 dX6_axles_169 ?_
                refine pw_iload_n C dX6_axles_170 rfl 2 rfl ?_
                obtain ⟨r171, m171, hc171, h⟩ := fn_bi_s h
                refine pw_callSi (rest := [.int v5]) C (ct_X6_has l C.2.2.2.2.2.2.2.2 hc171) (va_cwS 2 C.2.2.2.2.1 gX6_axles_X6_has rfl rfl rfl (by decide +kernel) ⟨Nat.le_of_ble_eq_true rfl, Nat.le_of_ble_eq_true rfl⟩) rfl rfl (Nat.le_of_ble_eq_true rfl) dX6_axles_171 ?_
                refine fn_jn1_s (fun x183_0 m183 => pw_Go p l e ({ frames := 4, cells := 0, slots := 0, locals := 102 }) s m (([.ref (gad G 54), .int a1, .int a2, .int a3, .int a4] : List Value).toArray) below meth c (MQ below (va_Qi (fun (r1 : Int32) (u : pw_Mem) => r1 = r ∧ u = μ') (pw_B G) (gA G)) (([.ref (gad G 54), .int a1, .int a2, .int a3, .int a4] : List Value).toArray) s 0 0 (gA G)) G 10 183 [(0, .ref (gad G 54)), (1, .int a1), (2, .int a2), (3, .int a3), (4, .int a4), (6, .int y61_6), (7, .int v7)] [.int x183_0, .int v5] m183) h (fun x183_0 m183 h => ?_) (fun k183 hk183 h => ?_)
                · refine pw_iadd C dX6_axles_183 ?_
                  refine pw_istore (lv' := [(5, .int (v5 + x183_0)), (0, .ref (gad G 54)), (1, .int a1), (2, .int a2), (3, .int a3), (4, .int a4), (6, .int y61_6), (7, .int v7)]) C dX6_axles_184 (by decide) rfl ?_
                  refine pw_iinc (v := (v7 + 1)) (lv' := [(7, .int (v7 + 1)), (5, .int (v5 + x183_0)), (0, .ref (gad G 54)), (1, .int a1), (2, .int a2), (3, .int a3), (4, .int a4), (6, .int y61_6)]) C dX6_axles_186 (q := 7) rfl rfl (by decide) rfl ?_
                  refine pw_goto (tgt := 88) C dX6_axles_189 (by decide) ?_
                  refine pw_sub [2, 3, 4, 5, 6, 1, 7, 0] rfl ?_
                  exact ih _ _ _ h
                · refine pw_if_eq (tgt := 182) C dX6_axles_174 (by decide) (fun c174 => ?_) (fun c174 => ?_)
                  · have h := fn_pos c174 h
                    refine pw_iconst (v := (0 : Int32)) C dX6_axles_182 (by decide) ?_
                    refine pw_sub [0, 1, 2, 3, 4, 6, 7] rfl ?_
                    exact hk183 _ _ h
                  · have h := fn_neg c174 h
                    refine pw_iload C dX6_axles_177 8 rfl ?_
                    refine pw_goto (tgt := 183) C dX6_axles_179 (by decide) ?_
                    refine pw_sub [0, 1, 2, 3, 4, 6, 7] rfl ?_
                    exact hk183 _ _ h
          refine pw_sub [1, 2, 3, 4, 5, 6, 7, 0] rfl ?_
          refine L88 _ (fun y88_5 m192 h => ?_) _ _ _ _ h
          refine pw_iload C dX6_axles_192 1 rfl ?_
          refine pw_istore (lv' := [(7, .int y88_5), (4, .int a4), (5, .int y88_5), (6, .int y61_6)]) C dX6_axles_194 (by decide) rfl ?_
          refine pw_iload C dX6_axles_196 3 rfl ?_
          refine pw_istore (lv' := [(8, .int y61_6), (7, .int y88_5), (4, .int a4), (5, .int y88_5), (6, .int y61_6)]) C dX6_axles_198 (by decide) rfl ?_
          have L200 : ∀ (k : Int32 → pw_Mem → Option (Int32 × pw_Mem)) (hk : ∀ (v7 : Int32) (m1 : pw_Mem), k v7 m1 = some (r, μ') → pw_Go p l e ({ frames := 4, cells := 0, slots := 0, locals := 102 }) s m (([.ref (gad G 54), .int a1, .int a2, .int a3, .int a4] : List Value).toArray) below meth c (MQ below (va_Qi (fun (r1 : Int32) (u : pw_Mem) => r1 = r ∧ u = μ') (pw_B G) (gA G)) (([.ref (gad G 54), .int a1, .int a2, .int a3, .int a4] : List Value).toArray) s 0 0 (gA G)) G 10 223 [(4, .int a4), (5, .int y88_5), (6, .int y61_6), (7, .int v7)] [] m1) (n : Nat) (v7 : Int32) (v8 : Int32) (m1 : pw_Mem), fl_X6_axles_200 k a4 y88_5 y61_6 n v7 v8 m1 = some (r, μ') → pw_Go p l e ({ frames := 4, cells := 0, slots := 0, locals := 102 }) s m (([.ref (gad G 54), .int a1, .int a2, .int a3, .int a4] : List Value).toArray) below meth c (MQ below (va_Qi (fun (r1 : Int32) (u : pw_Mem) => r1 = r ∧ u = μ') (pw_B G) (gA G)) (([.ref (gad G 54), .int a1, .int a2, .int a3, .int a4] : List Value).toArray) s 0 0 (gA G)) G 10 200 [(4, .int a4), (5, .int y88_5), (6, .int y61_6), (7, .int v7), (8, .int v8)] [] m1 := by
            intro k hk n
            induction n with
            | zero => intro v7 v8 m1 h; exact nomatch (show (none : Option (Int32 × pw_Mem)) = some _ from h)
            | succ n ih =>
              intro v7 v8 m1 h
              rw [fl_X6_axles_200] at h
              refine pw_iload C dX6_axles_200 4 rfl ?_
              refine pw_if_eq (tgt := 223) C dX6_axles_202 (by decide) (fun c202 => ?_) (fun c202 => ?_)
              · have h := fn_pos c202 h
                refine pw_sub [0, 1, 2, 3] rfl ?_
                exact hk _ _ h
              · have h := fn_neg c202 h
                refine pw_iload C dX6_axles_205 3 rfl ?_
                refine pw_iload C dX6_axles_207 4 rfl ?_
                obtain ⟨hz209, h⟩ := fn_nz_s h
                refine pw_irem C dX6_axles_209 hz209 ?_
                refine pw_istore (lv' := [(9, .int (v7 - v7 / v8 * v8)), (4, .int a4), (5, .int y88_5), (6, .int y61_6), (7, .int v7), (8, .int v8)]) C dX6_axles_210 (by decide) rfl ?_
                refine pw_iload C dX6_axles_212 5 rfl ?_
                refine pw_istore (lv' := [(7, .int v8), (9, .int (v7 - v7 / v8 * v8)), (4, .int a4), (5, .int y88_5), (6, .int y61_6), (8, .int v8)]) C dX6_axles_214 (by decide) rfl ?_
                refine pw_iload C dX6_axles_216 1 rfl ?_
                refine pw_istore (lv' := [(8, .int (v7 - v7 / v8 * v8)), (7, .int v8), (9, .int (v7 - v7 / v8 * v8)), (4, .int a4), (5, .int y88_5), (6, .int y61_6)]) C dX6_axles_218 (by decide) rfl ?_
                refine pw_goto (tgt := 200) C dX6_axles_220 (by decide) ?_
                refine pw_sub [3, 4, 5, 1, 0] rfl ?_
                exact ih _ _ _ h
          refine pw_sub [2, 3, 4, 1, 0] rfl ?_
          refine L200 _ (fun y200_7 m223 h => ?_) _ _ _ _ h
          refine pw_iload C dX6_axles_223 0 rfl ?_
          refine pw_if_ne (tgt := 236) C dX6_axles_225 (by decide) (fun c225 => ?_) (fun c225 => ?_)
          · have h := fn_pos c225 h
            refine pw_iload C dX6_axles_236 2 rfl ?_
            refine pw_iload C dX6_axles_238 3 rfl ?_
            obtain ⟨hz240, h⟩ := fn_nz_s h
            refine pw_idiv C dX6_axles_240 hz240 ?_
            exact pw_iret C h dX6_axles_241
          · have h := fn_neg c225 h
            refine pw_iload C dX6_axles_228 1 rfl ?_
            refine pw_iload C dX6_axles_230 3 rfl ?_
            obtain ⟨hz232, h⟩ := fn_nz_s h
            refine pw_idiv C dX6_axles_232 hz232 ?_
            refine pw_goto (tgt := 241) C dX6_axles_233 (by decide) ?_
            exact pw_iret C h dX6_axles_241
        · have h := fn_neg c46 h
          refine pw_ldc C k3 dX6_axles_49 ?_
          exact pw_iret C h dX6_axles_51
