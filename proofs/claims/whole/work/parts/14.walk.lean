set_option maxHeartbeats 4000000 in
set_option maxRecDepth 100000 in
theorem ct_X6_drawn (l : Launch) {G : pw_G} (hG : pw_Ok G) {a1 : Int32} {a2 : Int32} {a3 : Int32}  {μ μ' : pw_Mem} {r : Int32} (h : fn_X6_drawn a1 a2 a3 μ = some (r, μ')) : Met l yX6_drawn wsX6_drawn ({ frames := 4, cells := 0, slots := 0, locals := 102 }) (va_Pc [.ref (gad G 54), .int a1, .int a2, .int a3] (pw_Pre G μ)) (va_Qi (fun (r1 : Int32) (u : pw_Mem) => r1 = r ∧ u = μ') (pw_B G) (gA G)) 0 0 (gA G) := by
  refine pw_met (lv := [(0, .ref (gad G 54)), (1, .int a1), (2, .int a2), (3, .int a3)]) (own := RX6) (cc := cX6_drawn) (maxL := 7) (ret := some .int) hG rfl (by decide) rfl rfl (Nat.le_of_ble_eq_true rfl) ?_
  intro p e s m below meth c C
  have iX6 : ∀ w ∈ u_ws RX6 TX6 16, w ∈ wsX6_drawn := fun _ h => List.mem_cons_of_mem _ (List.mem_append_right _ (h))
  have k1 := C.2.2.2.2.1 (.constant RX6 146 (-1000002)) (List.mem_cons_of_mem _ (List.mem_append_left _ (List.mem_append_left _ (List.mem_of_getElem? (i := 0) rfl))))
  have k2 := C.2.2.2.2.1 (.constantLong RX6 167 (60)) (List.mem_cons_of_mem _ (List.mem_append_left _ (List.mem_append_left _ (List.mem_of_getElem? (i := 1) rfl))))
  have k3 := C.2.2.2.2.1 (.constantLong RX6 197 (999999)) (List.mem_cons_of_mem _ (List.mem_append_left _ (List.mem_append_left _ (List.mem_of_getElem? (i := 2) rfl))))
  have k4 := C.2.2.2.2.1 (.constant RX6 51 (-1000001)) (List.mem_cons_of_mem _ (List.mem_append_left _ (List.mem_append_left _ (List.mem_of_getElem? (i := 3) rfl))))
  have k5 := C.2.2.2.2.1 (.constantLong RX6 199 (16807)) (List.mem_cons_of_mem _ (List.mem_append_left _ (List.mem_append_left _ (List.mem_of_getElem? (i := 4) rfl))))
  have k6 := C.2.2.2.2.1 (.constantLong RX6 201 (2147483647)) (List.mem_cons_of_mem _ (List.mem_append_left _ (List.mem_append_left _ (List.mem_of_getElem? (i := 5) rfl))))
  have k7 := C.2.2.2.2.1 (.fieldLink RX6 7 "PulpitRoadsModel" "w" "[I") (List.mem_cons_of_mem _ (List.mem_append_left _ (List.mem_append_left _ (List.mem_of_getElem? (i := 6) rfl))))
  have k8 := C.2.2.2.2.1 (.constantLong RX6 189 (3)) (List.mem_cons_of_mem _ (List.mem_append_left _ (List.mem_append_left _ (List.mem_of_getElem? (i := 7) rfl))))
  unfold fn_X6_drawn at h
  refine pw_aload_n C dX6_drawn_0 rfl 0 rfl ?_
  obtain ⟨r1, m1, hc1, h⟩ := fn_bi_s h
  refine pw_callVi (rest := []) C (by decide) (pw_sh_54 _) rfl (ct_X6_isRoad l C.2.2.2.2.2.2.2.2 hc1) (cwV 0 C.2.2.2.2.1 gX6_drawn_X6_isRoad rfl rfl rfl (by decide +kernel) ⟨Nat.le_of_ble_eq_true rfl, Nat.le_of_ble_eq_true rfl⟩) rfl rfl (Nat.le_of_ble_eq_true rfl) dX6_drawn_1 ?_
  refine pw_if_ne (tgt := 10) C dX6_drawn_4 (by decide) (fun c4 => ?_) (fun c4 => ?_)
  · have h := fn_pos c4 h
    refine pw_iload_n C dX6_drawn_10 rfl 1 rfl ?_
    refine pw_i2l C dX6_drawn_11 ?_
    refine pw_lconst (v := (0 : Int64)) C dX6_drawn_12 (by decide) ?_
    refine pw_ldc2 C k2 dX6_drawn_13 ?_
    obtain ⟨r16, m16, hc16, h⟩ := fn_bi_s h
    refine pw_callSi (rest := []) C (ct_X6_in l C.2.2.2.2.2.2.2.2 hc16) (va_cwS 3 C.2.2.2.2.1 gX6_drawn_X6_in rfl rfl rfl (by decide +kernel) ⟨Nat.le_of_ble_eq_true rfl, Nat.le_of_ble_eq_true rfl⟩) rfl rfl (Nat.le_of_ble_eq_true rfl) dX6_drawn_16 ?_
    refine pw_if_eq (tgt := 44) C dX6_drawn_19 (by decide) (fun c19 => ?_) (fun c19 => ?_)
    · have h := fn_pos c19 h
      refine pw_ldc C k4 dX6_drawn_44 ?_
      exact pw_iret C h dX6_drawn_46
    · have h := fn_neg c19 h
      refine pw_iload_n C dX6_drawn_22 rfl 2 rfl ?_
      refine pw_i2l C dX6_drawn_23 ?_
      refine pw_lconst (v := (1 : Int64)) C dX6_drawn_24 (by decide) ?_
      refine pw_ldc2 C k3 dX6_drawn_25 ?_
      obtain ⟨r28, m28, hc28, h⟩ := fn_bi_s h
      refine pw_callSi (rest := []) C (ct_X6_in l C.2.2.2.2.2.2.2.2 hc28) (va_cwS 3 C.2.2.2.2.1 gX6_drawn_X6_in rfl rfl rfl (by decide +kernel) ⟨Nat.le_of_ble_eq_true rfl, Nat.le_of_ble_eq_true rfl⟩) rfl rfl (Nat.le_of_ble_eq_true rfl) dX6_drawn_28 ?_
      refine pw_if_eq (tgt := 44) C dX6_drawn_31 (by decide) (fun c31 => ?_) (fun c31 => ?_)
      · have h := fn_pos c31 h
        refine pw_ldc C k4 dX6_drawn_44 ?_
        exact pw_iret C h dX6_drawn_46
      · have h := fn_neg c31 h
        refine pw_iload_n C dX6_drawn_34 rfl 3 rfl ?_
        refine pw_i2l C dX6_drawn_35 ?_
        refine pw_lconst (v := (0 : Int64)) C dX6_drawn_36 (by decide) ?_
        refine pw_lconst (v := (1 : Int64)) C dX6_drawn_37 (by decide) ?_
        obtain ⟨r38, m38, hc38, h⟩ := fn_bi_s h
        refine pw_callSi (rest := []) C (ct_X6_in l C.2.2.2.2.2.2.2.2 hc38) (va_cwS 3 C.2.2.2.2.1 gX6_drawn_X6_in rfl rfl rfl (by decide +kernel) ⟨Nat.le_of_ble_eq_true rfl, Nat.le_of_ble_eq_true rfl⟩) rfl rfl (Nat.le_of_ble_eq_true rfl) dX6_drawn_38 ?_
        refine pw_if_ne (tgt := 47) C dX6_drawn_41 (by decide) (fun c41 => ?_) (fun c41 => ?_)
        · have h := fn_pos c41 h
          refine pw_aload_n C dX6_drawn_47 rfl 0 rfl ?_
          obtain ⟨m48, hc48, h⟩ := fn_bv_s h
          refine pw_callVv (rest := []) C (by decide) (pw_sh_54 _) rfl (ct_X6_tries l C.2.2.2.2.2.2.2.2 hc48) (cwV 0 C.2.2.2.2.1 gX6_drawn_X6_tries rfl rfl rfl (by decide +kernel) ⟨Nat.le_of_ble_eq_true rfl, Nat.le_of_ble_eq_true rfl⟩) rfl rfl (Nat.le_of_ble_eq_true rfl) dX6_drawn_48 ?_
          refine pw_iload_n C dX6_drawn_51 rfl 2 rfl ?_
          refine pw_i2l C dX6_drawn_52 ?_
          refine pw_lstore (lv' := [(4, .long (a2).toInt64), (0, .ref (gad G 54)), (1, .int a1), (2, .int a2), (3, .int a3)]) C dX6_drawn_53 (by decide) rfl ?_
          refine pw_iconst (v := (0 : Int32)) C dX6_drawn_55 (by decide) ?_
          refine pw_istore (lv' := [(6, .int (0 : Int32)), (4, .long (a2).toInt64), (0, .ref (gad G 54)), (1, .int a1), (2, .int a2), (3, .int a3)]) C dX6_drawn_56 (by decide) rfl ?_
          have L58 : ∀ (k : pw_Mem → Option (Int32 × pw_Mem)) (hk : ∀  (m1 : pw_Mem), k m1 = some (r, μ') → pw_Go p l e ({ frames := 4, cells := 0, slots := 0, locals := 102 }) s m (([.ref (gad G 54), .int a1, .int a2, .int a3] : List Value).toArray) below meth c (MQ below (va_Qi (fun (r1 : Int32) (u : pw_Mem) => r1 = r ∧ u = μ') (pw_B G) (gA G)) (([.ref (gad G 54), .int a1, .int a2, .int a3] : List Value).toArray) s 0 0 (gA G)) G 7 139 [(0, .ref (gad G 54)), (3, .int a3)] [] m1) (n : Nat) (v4 : Int64) (v6 : Int32) (m1 : pw_Mem), fl_X6_drawn_58 k a1 a3 n v4 v6 m1 = some (r, μ') → pw_Go p l e ({ frames := 4, cells := 0, slots := 0, locals := 102 }) s m (([.ref (gad G 54), .int a1, .int a2, .int a3] : List Value).toArray) below meth c (MQ below (va_Qi (fun (r1 : Int32) (u : pw_Mem) => r1 = r ∧ u = μ') (pw_B G) (gA G)) (([.ref (gad G 54), .int a1, .int a2, .int a3] : List Value).toArray) s 0 0 (gA G)) G 7 58 [(0, .ref (gad G 54)), (1, .int a1), (3, .int a3), (4, .long v4), (6, .int v6)] [] m1 := by
            intro k hk n
            induction n with
            | zero => intro v4 v6 m1 h; exact nomatch (show (none : Option (Int32 × pw_Mem)) = some _ from h)
            | succ n ih =>
              intro v4 v6 m1 h
              rw [fl_X6_drawn_58] at h
              refine pw_iload C dX6_drawn_58 4 rfl ?_
              refine pw_iload_n C dX6_drawn_60 rfl 1 rfl ?_
              refine pw_icmp_ge (tgt := 139) C dX6_drawn_61 (by decide) (fun c61 => ?_) (fun c61 => ?_)
              · have h := fn_pos c61 h
                refine pw_sub [0, 2] rfl ?_
                exact hk _ h
              · have h := fn_neg c61 h
                refine pw_lload C dX6_drawn_64 3 rfl ?_
                refine pw_ldc2 C k5 dX6_drawn_66 ?_
                refine pw_lmul C dX6_drawn_69 ?_
                refine pw_ldc2 C k6 dX6_drawn_70 ?_
                obtain ⟨hz73, h⟩ := fn_nzl_s h
                refine pw_lrem C dX6_drawn_73 hz73 ?_
                refine pw_lstore (lv' := [(4, .long ((v4 * (16807 : Int64)) - (v4 * (16807 : Int64)) / (2147483647 : Int64) * (2147483647 : Int64))), (0, .ref (gad G 54)), (1, .int a1), (3, .int a3), (6, .int v6)]) C dX6_drawn_74 (by decide) rfl ?_
                refine pw_aload_n C dX6_drawn_76 rfl 1 rfl ?_
                refine pw_get (v := .ref (gad G 55)) C iX6 (by decide) (pw_sh_54 _) rfl 0 (by decide) k7 rfl dX6_drawn_77 ?_
                refine pw_iconst (v := (1 : Int32)) C dX6_drawn_80 (by decide) ?_
                obtain ⟨hi81, h⟩ := fn_ix_s h
                refine pw_iald C (by decide) (pw_sh_55 _) hi81 dX6_drawn_81 ?_
                refine fn_jn0_s (fun m126 => pw_Go p l e ({ frames := 4, cells := 0, slots := 0, locals := 102 }) s m (([.ref (gad G 54), .int a1, .int a2, .int a3] : List Value).toArray) below meth c (MQ below (va_Qi (fun (r1 : Int32) (u : pw_Mem) => r1 = r ∧ u = μ') (pw_B G) (gA G)) (([.ref (gad G 54), .int a1, .int a2, .int a3] : List Value).toArray) s 0 0 (gA G)) G 7 126 [(0, .ref (gad G 54)), (1, .int a1), (3, .int a3), (4, .long ((v4 * (16807 : Int64)) - (v4 * (16807 : Int64)) / (2147483647 : Int64) * (2147483647 : Int64))), (6, .int v6)] [] m126) h (fun m126 h => ?_) (fun k126 hk126 h => ?_)
                · refine pw_aload_n C dX6_drawn_126 rfl 0 rfl ?_
                  refine pw_bipush (v := (38 : Int32)) C dX6_drawn_127 (by decide) ?_
                  refine pw_iconst (v := (0 : Int32)) C dX6_drawn_129 (by decide) ?_
                  obtain ⟨m130, hc130, h⟩ := fn_bv_s h
                  refine pw_callVv (rest := []) C (by decide) (pw_sh_54 _) rfl (ct_X6_hourBy l C.2.2.2.2.2.2.2.2 hc130) (cwV 2 C.2.2.2.2.1 gX6_drawn_X6_hourBy rfl rfl rfl (by decide +kernel) ⟨Nat.le_of_ble_eq_true rfl, Nat.le_of_ble_eq_true rfl⟩) rfl rfl (Nat.le_of_ble_eq_true rfl) dX6_drawn_130 ?_
                  refine pw_iinc (v := (v6 + 1)) (lv' := [(6, .int (v6 + 1)), (0, .ref (gad G 54)), (1, .int a1), (3, .int a3), (4, .long ((v4 * (16807 : Int64)) - (v4 * (16807 : Int64)) / (2147483647 : Int64) * (2147483647 : Int64)))]) C dX6_drawn_133 (q := 4) rfl rfl (by decide) rfl ?_
                  refine pw_goto (tgt := 58) C dX6_drawn_136 (by decide) ?_
                  refine pw_sub [1, 2, 3, 4, 0] rfl ?_
                  exact ih _ _ _ h
                · refine pw_if_le (tgt := 126) C dX6_drawn_82 (by decide) (fun c82 => ?_) (fun c82 => ?_)
                  · have h := fn_pos c82 h
                    refine pw_sub [1, 2, 3, 0, 4] rfl ?_
                    exact hk126 _ h
                  · have h := fn_neg c82 h
                    refine pw_lload C dX6_drawn_85 0 rfl ?_
                    refine pw_ldc2 C k8 dX6_drawn_87 ?_
                    obtain ⟨hz90, h⟩ := fn_nzl_s h
                    refine pw_lrem C dX6_drawn_90 hz90 ?_
                    refine pw_lconst (v := (0 : Int64)) C dX6_drawn_91 (by decide) ?_
                    refine pw_lcmp C dX6_drawn_92 ?_
                    refine pw_if_ne (tgt := 126) C dX6_drawn_93 (by decide) (fun c93 => ?_) (fun c93 => ?_)
                    · have h := fn_pos c93 h
                      refine pw_sub [1, 2, 3, 0, 4] rfl ?_
                      exact hk126 _ h
                    · have h := fn_neg c93 h
                      refine pw_aload_n C dX6_drawn_96 rfl 1 rfl ?_
                      refine pw_get (v := .ref (gad G 55)) C iX6 (by decide) (pw_sh_54 _) rfl 0 (by decide) k7 rfl dX6_drawn_97 ?_
                      refine pw_bipush (v := (57 : Int32)) C dX6_drawn_100 (by decide) ?_
                      refine pw_lload C dX6_drawn_102 0 rfl ?_
                      refine pw_aload_n C dX6_drawn_104 rfl 1 rfl ?_
                      refine pw_get (v := .ref (gad G 55)) C iX6 (by decide) (pw_sh_54 _) rfl 0 (by decide) k7 rfl dX6_drawn_105 ?_
                      refine pw_iconst (v := (1 : Int32)) C dX6_drawn_108 (by decide) ?_
                      obtain ⟨hi109, h⟩ := fn_ix_s h
                      refine pw_iald C (by decide) (pw_sh_55 _) hi109 dX6_drawn_109 ?_
                      refine pw_i2l C dX6_drawn_110 ?_
                      obtain ⟨hz111, h⟩ := fn_nzl_s h
                      refine pw_lrem C dX6_drawn_111 hz111 ?_
                      refine pw_l2i C dX6_drawn_112 ?_
                      refine pw_iadd C dX6_drawn_113 ?_
                      refine pw_lload C dX6_drawn_114 0 rfl ?_
                      refine pw_aload_n C dX6_drawn_116 rfl 1 rfl ?_
                      refine pw_get (v := .ref (gad G 55)) C iX6 (by decide) (pw_sh_54 _) rfl 0 (by decide) k7 rfl dX6_drawn_117 ?_
                      refine pw_iconst (v := (0 : Int32)) C dX6_drawn_120 (by decide) ?_
                      obtain ⟨hi121, h⟩ := fn_ix_s h
                      refine pw_iald C (by decide) (pw_sh_55 _) hi121 dX6_drawn_121 ?_
                      refine pw_i2l C dX6_drawn_122 ?_
                      obtain ⟨hz123, h⟩ := fn_nzl_s h
                      refine pw_lrem C dX6_drawn_123 hz123 ?_
                      refine pw_l2i C dX6_drawn_124 ?_
                      obtain ⟨hi125, h⟩ := fn_ix_s h
                      refine pw_iast C (by decide) pw_sh_55 hi125 dX6_drawn_125 ?_
                      refine pw_sub [1, 2, 3, 0, 4] rfl ?_
                      exact hk126 _ h
          refine pw_sub [2, 3, 5, 1, 0] rfl ?_
          refine L58 _ (fun m139 h => ?_) _ _ _ _ h
          refine pw_iload_n C dX6_drawn_139 rfl 1 rfl ?_
          refine pw_if_ne (tgt := 152) C dX6_drawn_140 (by decide) (fun c140 => ?_) (fun c140 => ?_)
          · have h := fn_pos c140 h
            refine pw_aload_n C dX6_drawn_152 rfl 0 rfl ?_
            refine pw_bipush (v := (38 : Int32)) C dX6_drawn_153 (by decide) ?_
            obtain ⟨r155, m155, hc155, h⟩ := fn_bi_s h
            refine pw_callVi (rest := []) C (by decide) (pw_sh_54 _) rfl (ct_X6_wholeOnes l C.2.2.2.2.2.2.2.2 hc155) (cwV 1 C.2.2.2.2.1 gX6_drawn_X6_wholeOnes rfl rfl rfl (by decide +kernel) ⟨Nat.le_of_ble_eq_true rfl, Nat.le_of_ble_eq_true rfl⟩) rfl rfl (Nat.le_of_ble_eq_true rfl) dX6_drawn_155 ?_
            obtain ⟨r158, m158, hc158, h⟩ := fn_bi_s h
            refine pw_callSi (rest := []) C (ct_X6_ones l C.2.2.2.2.2.2.2.2 hc158) (va_cwS 1 C.2.2.2.2.1 gX6_drawn_X6_ones rfl rfl rfl (by decide +kernel) ⟨Nat.le_of_ble_eq_true rfl, Nat.le_of_ble_eq_true rfl⟩) rfl rfl (Nat.le_of_ble_eq_true rfl) dX6_drawn_158 ?_
            exact pw_iret C h dX6_drawn_161
          · have h := fn_neg c140 h
            refine pw_aload_n C dX6_drawn_143 rfl 0 rfl ?_
            refine pw_bipush (v := (38 : Int32)) C dX6_drawn_144 (by decide) ?_
            obtain ⟨r146, m146, hc146, h⟩ := fn_bi_s h
            refine pw_callVi (rest := []) C (by decide) (pw_sh_54 _) rfl (ct_X6_heardWords l C.2.2.2.2.2.2.2.2 hc146) (cwV 1 C.2.2.2.2.1 gX6_drawn_X6_heardWords rfl rfl rfl (by decide +kernel) ⟨Nat.le_of_ble_eq_true rfl, Nat.le_of_ble_eq_true rfl⟩) rfl rfl (Nat.le_of_ble_eq_true rfl) dX6_drawn_146 ?_
            refine pw_goto (tgt := 161) C dX6_drawn_149 (by decide) ?_
            exact pw_iret C h dX6_drawn_161
        · have h := fn_neg c41 h
          refine pw_ldc C k4 dX6_drawn_44 ?_
          exact pw_iret C h dX6_drawn_46
  · have h := fn_neg c4 h
    refine pw_ldc C k1 dX6_drawn_7 ?_
    exact pw_iret C h dX6_drawn_9
set_option maxHeartbeats 4000000 in
set_option maxRecDepth 100000 in
theorem ct_X6_image (l : Launch) {G : pw_G} (hG : pw_Ok G) {a1 : Int32}  {μ μ' : pw_Mem} {r : Int32} (h : fn_X6_image a1 μ = some (r, μ')) : Met l yX6_image wsX6_image ({ frames := 1, cells := 0, slots := 0, locals := 25 }) (va_Pc [.ref (gad G 54), .int a1] (pw_Pre G μ)) (va_Qi (fun (r1 : Int32) (u : pw_Mem) => r1 = r ∧ u = μ') (pw_B G) (gA G)) 0 0 (gA G) := by
  refine pw_met (lv := [(0, .ref (gad G 54)), (1, .int a1)]) (own := RX6) (cc := cX6_image) (maxL := 2) (ret := some .int) hG rfl (by decide) rfl rfl (Nat.le_of_ble_eq_true rfl) ?_
  intro p e s m below meth c C
  have k1 := C.2.2.2.2.1 (.constant RX6 51 (-1000001)) (List.mem_cons_of_mem _ (List.mem_append_left _ (List.mem_of_getElem? (i := 0) rfl)))
  have k2 := C.2.2.2.2.1 (.constant RX6 146 (-1000002)) (List.mem_cons_of_mem _ (List.mem_append_left _ (List.mem_of_getElem? (i := 1) rfl)))
  unfold fn_X6_image at h
  refine pw_iload_n C dX6_image_0 rfl 1 rfl ?_
  refine pw_i2l C dX6_image_1 ?_
  refine pw_lconst (v := (0 : Int64)) C dX6_image_2 (by decide) ?_
  refine pw_lconst (v := (1 : Int64)) C dX6_image_3 (by decide) ?_
  obtain ⟨r4, m4, hc4, h⟩ := fn_bi_s h
  refine pw_callSi (rest := []) C (ct_X6_in l C.2.2.2.2.2.2.2.2 hc4) (va_cwS 3 C.2.2.2.2.1 gX6_image_X6_in rfl rfl rfl (by decide +kernel) ⟨Nat.le_of_ble_eq_true rfl, Nat.le_of_ble_eq_true rfl⟩) rfl rfl (Nat.le_of_ble_eq_true rfl) dX6_image_4 ?_
  refine pw_if_ne (tgt := 13) C dX6_image_7 (by decide) (fun c7 => ?_) (fun c7 => ?_)
  · have h := fn_pos c7 h
    refine pw_aload_n C dX6_image_13 rfl 0 rfl ?_
    obtain ⟨r14, m14, hc14, h⟩ := fn_bi_s h
    refine pw_callVi (rest := []) C (by decide) (pw_sh_54 _) rfl (ct_X6_isRoad l C.2.2.2.2.2.2.2.2 hc14) (cwV 0 C.2.2.2.2.1 gX6_image_X6_isRoad rfl rfl rfl (by decide +kernel) ⟨Nat.le_of_ble_eq_true rfl, Nat.le_of_ble_eq_true rfl⟩) rfl rfl (Nat.le_of_ble_eq_true rfl) dX6_image_14 ?_
    refine pw_if_ne (tgt := 23) C dX6_image_17 (by decide) (fun c17 => ?_) (fun c17 => ?_)
    · have h := fn_pos c17 h
      refine pw_aload_n C dX6_image_23 rfl 0 rfl ?_
      refine pw_iconst (v := (0 : Int32)) C dX6_image_24 (by decide) ?_
      refine pw_bipush (v := (76 : Int32)) C dX6_image_25 (by decide) ?_
      refine pw_bipush (v := (38 : Int32)) C dX6_image_27 (by decide) ?_
      refine pw_iload_n C dX6_image_29 rfl 1 rfl ?_
      refine pw_imul C dX6_image_30 ?_
      refine pw_iadd C dX6_image_31 ?_
      refine pw_bipush (v := (38 : Int32)) C dX6_image_32 (by decide) ?_
      obtain ⟨m34, hc34, h⟩ := fn_bv_s h
      refine pw_callVv (rest := []) C (by decide) (pw_sh_54 _) rfl (ct_X6_copyOf l C.2.2.2.2.2.2.2.2 hc34) (cwV 3 C.2.2.2.2.1 gX6_image_X6_copyOf rfl rfl rfl (by decide +kernel) ⟨Nat.le_of_ble_eq_true rfl, Nat.le_of_ble_eq_true rfl⟩) rfl rfl (Nat.le_of_ble_eq_true rfl) dX6_image_34 ?_
      refine pw_iconst (v := (1 : Int32)) C dX6_image_37 (by decide) ?_
      exact pw_iret C h dX6_image_38
    · have h := fn_neg c17 h
      refine pw_ldc C k2 dX6_image_20 ?_
      exact pw_iret C h dX6_image_22
  · have h := fn_neg c7 h
    refine pw_ldc C k1 dX6_image_10 ?_
    exact pw_iret C h dX6_image_12
set_option maxHeartbeats 4000000 in
set_option maxRecDepth 100000 in
theorem ct_X6_restore (l : Launch) {G : pw_G} (hG : pw_Ok G) {a1 : Int32}  {μ μ' : pw_Mem} {r : Int32} (h : fn_X6_restore a1 μ = some (r, μ')) : Met l yX6_restore wsX6_restore ({ frames := 1, cells := 0, slots := 0, locals := 25 }) (va_Pc [.ref (gad G 54), .int a1] (pw_Pre G μ)) (va_Qi (fun (r1 : Int32) (u : pw_Mem) => r1 = r ∧ u = μ') (pw_B G) (gA G)) 0 0 (gA G) := by
  refine pw_met (lv := [(0, .ref (gad G 54)), (1, .int a1)]) (own := RX6) (cc := cX6_restore) (maxL := 2) (ret := some .int) hG rfl (by decide) rfl rfl (Nat.le_of_ble_eq_true rfl) ?_
  intro p e s m below meth c C
  have iX6 : ∀ w ∈ u_ws RX6 TX6 16, w ∈ wsX6_restore := fun _ h => List.mem_cons_of_mem _ (List.mem_append_right _ (h))
  have k1 := C.2.2.2.2.1 (.constant RX6 51 (-1000001)) (List.mem_cons_of_mem _ (List.mem_append_left _ (List.mem_of_getElem? (i := 0) rfl)))
  have k2 := C.2.2.2.2.1 (.fieldLink RX6 7 "PulpitRoadsModel" "w" "[I") (List.mem_cons_of_mem _ (List.mem_append_left _ (List.mem_of_getElem? (i := 1) rfl)))
  have k3 := C.2.2.2.2.1 (.constant RX6 146 (-1000002)) (List.mem_cons_of_mem _ (List.mem_append_left _ (List.mem_of_getElem? (i := 2) rfl)))
  have k4 := C.2.2.2.2.1 (.fieldLink RX6 117 "PulpitRoadsModel" "undoes" "I") (List.mem_cons_of_mem _ (List.mem_append_left _ (List.mem_of_getElem? (i := 3) rfl)))
  unfold fn_X6_restore at h
  refine pw_iload_n C dX6_restore_0 rfl 1 rfl ?_
  refine pw_i2l C dX6_restore_1 ?_
  refine pw_lconst (v := (0 : Int64)) C dX6_restore_2 (by decide) ?_
  refine pw_lconst (v := (1 : Int64)) C dX6_restore_3 (by decide) ?_
  obtain ⟨r4, m4, hc4, h⟩ := fn_bi_s h
  refine pw_callSi (rest := []) C (ct_X6_in l C.2.2.2.2.2.2.2.2 hc4) (va_cwS 3 C.2.2.2.2.1 gX6_restore_X6_in rfl rfl rfl (by decide +kernel) ⟨Nat.le_of_ble_eq_true rfl, Nat.le_of_ble_eq_true rfl⟩) rfl rfl (Nat.le_of_ble_eq_true rfl) dX6_restore_4 ?_
  refine pw_if_ne (tgt := 13) C dX6_restore_7 (by decide) (fun c7 => ?_) (fun c7 => ?_)
  · have h := fn_pos c7 h
    refine pw_aload_n C dX6_restore_13 rfl 0 rfl ?_
    refine pw_get (v := .ref (gad G 55)) C iX6 (by decide) (pw_sh_54 _) rfl 0 (by decide) k2 rfl dX6_restore_14 ?_
    refine pw_bipush (v := (76 : Int32)) C dX6_restore_17 (by decide) ?_
    refine pw_bipush (v := (38 : Int32)) C dX6_restore_19 (by decide) ?_
    refine pw_iload_n C dX6_restore_21 rfl 1 rfl ?_
    refine pw_imul C dX6_restore_22 ?_
    refine pw_iadd C dX6_restore_23 ?_
    refine pw_iconst (v := (0 : Int32)) C dX6_restore_24 (by decide) ?_
    refine pw_iadd C dX6_restore_25 ?_
    obtain ⟨hi26, h⟩ := fn_ix_s h
    refine pw_iald C (by decide) (pw_sh_55 _) hi26 dX6_restore_26 ?_
    refine pw_if_ne (tgt := 33) C dX6_restore_27 (by decide) (fun c27 => ?_) (fun c27 => ?_)
    · have h := fn_pos c27 h
      refine pw_aload_n C dX6_restore_33 rfl 0 rfl ?_
      refine pw_bipush (v := (76 : Int32)) C dX6_restore_34 (by decide) ?_
      refine pw_bipush (v := (38 : Int32)) C dX6_restore_36 (by decide) ?_
      refine pw_iload_n C dX6_restore_38 rfl 1 rfl ?_
      refine pw_imul C dX6_restore_39 ?_
      refine pw_iadd C dX6_restore_40 ?_
      refine pw_iconst (v := (0 : Int32)) C dX6_restore_41 (by decide) ?_
      refine pw_bipush (v := (38 : Int32)) C dX6_restore_42 (by decide) ?_
      obtain ⟨m44, hc44, h⟩ := fn_bv_s h
      refine pw_callVv (rest := []) C (by decide) (pw_sh_54 _) rfl (ct_X6_copyOf l C.2.2.2.2.2.2.2.2 hc44) (cwV 3 C.2.2.2.2.1 gX6_restore_X6_copyOf rfl rfl rfl (by decide +kernel) ⟨Nat.le_of_ble_eq_true rfl, Nat.le_of_ble_eq_true rfl⟩) rfl rfl (Nat.le_of_ble_eq_true rfl) dX6_restore_44 ?_
      refine pw_aload_n C dX6_restore_47 rfl 0 rfl ?_
      refine pw_iconst (v := (0 : Int32)) C dX6_restore_48 (by decide) ?_
      refine pw_put (host := "PulpitRoads") (ty := .int) C iX6 tyX6 tyX6_ok nmX6 (by decide) (pw_sh_54 _) rfl 1 (by decide) (pw_sh_54 _) k4 rfl (by decide +kernel) (fn_int _) (Nat.le_of_ble_eq_true rfl) dX6_restore_49 ?_
      refine pw_iconst (v := (1 : Int32)) C dX6_restore_52 (by decide) ?_
      exact pw_iret C h dX6_restore_53
    · have h := fn_neg c27 h
      refine pw_ldc C k3 dX6_restore_30 ?_
      exact pw_iret C h dX6_restore_32
  · have h := fn_neg c7 h
    refine pw_ldc C k1 dX6_restore_10 ?_
    exact pw_iret C h dX6_restore_12
set_option maxHeartbeats 4000000 in
set_option maxRecDepth 100000 in
theorem ct_X6_kind (l : Launch) {G : pw_G} (hG : pw_Ok G) {a1 : Int32}  {μ μ' : pw_Mem} {r : Int32} (h : fn_X6_kind a1 μ = some (r, μ')) : Met l yX6_kind wsX6_kind ({ frames := 2, cells := 0, slots := 0, locals := 46 }) (va_Pc [.ref (gad G 54), .int a1] (pw_Pre G μ)) (va_Qi (fun (r1 : Int32) (u : pw_Mem) => r1 = r ∧ u = μ') (pw_B G) (gA G)) 0 0 (gA G) := by
  refine pw_met (lv := [(0, .ref (gad G 54)), (1, .int a1)]) (own := RX6) (cc := cX6_kind) (maxL := 2) (ret := some .int) hG rfl (by decide) rfl rfl (Nat.le_of_ble_eq_true rfl) ?_
  intro p e s m below meth c C
  have iX6 : ∀ w ∈ u_ws RX6 TX6 16, w ∈ wsX6_kind := fun _ h => List.mem_cons_of_mem _ (List.mem_append_right _ (h))
  have k1 := C.2.2.2.2.1 (.fieldLink RX6 7 "PulpitRoadsModel" "w" "[I") (List.mem_cons_of_mem _ (List.mem_append_left _ (List.mem_of_getElem? (i := 0) rfl)))
  have k2 := C.2.2.2.2.1 (.constant RX6 51 (-1000001)) (List.mem_cons_of_mem _ (List.mem_append_left _ (List.mem_of_getElem? (i := 1) rfl)))
  unfold fn_X6_kind at h
  refine pw_aload_n C dX6_kind_0 rfl 0 rfl ?_
  refine pw_iload_n C dX6_kind_1 rfl 1 rfl ?_
  obtain ⟨r2, m2, hc2, h⟩ := fn_bi_s h
  refine pw_callVi (rest := []) C (by decide) (pw_sh_54 _) rfl (ct_X6_isPulpit l C.2.2.2.2.2.2.2.2 hc2) (cwV 1 C.2.2.2.2.1 gX6_kind_X6_isPulpit rfl rfl rfl (by decide +kernel) ⟨Nat.le_of_ble_eq_true rfl, Nat.le_of_ble_eq_true rfl⟩) rfl rfl (Nat.le_of_ble_eq_true rfl) dX6_kind_2 ?_
  refine pw_if_eq (tgt := 20) C dX6_kind_5 (by decide) (fun c5 => ?_) (fun c5 => ?_)
  · have h := fn_pos c5 h
    refine pw_ldc C k2 dX6_kind_20 ?_
    exact pw_iret C h dX6_kind_22
  · have h := fn_neg c5 h
    refine pw_aload_n C dX6_kind_8 rfl 0 rfl ?_
    refine pw_get (v := .ref (gad G 55)) C iX6 (by decide) (pw_sh_54 _) rfl 0 (by decide) k1 rfl dX6_kind_9 ?_
    refine pw_bipush (v := (13 : Int32)) C dX6_kind_12 (by decide) ?_
    refine pw_iload_n C dX6_kind_14 rfl 1 rfl ?_
    refine pw_iadd C dX6_kind_15 ?_
    obtain ⟨hi16, h⟩ := fn_ix_s h
    refine pw_iald C (by decide) (pw_sh_55 _) hi16 dX6_kind_16 ?_
    refine pw_goto (tgt := 22) C dX6_kind_17 (by decide) ?_
    exact pw_iret C h dX6_kind_22
set_option maxHeartbeats 4000000 in
set_option maxRecDepth 100000 in
theorem ct_X6_isA (l : Launch) {G : pw_G} (hG : pw_Ok G) {a0 : Int32} {a1 : Int32}  {μ μ' : pw_Mem} {r : Int32} (h : fn_X6_isA a0 a1 μ = some (r, μ')) : Met l yX6_isA wsX6_isA ({ frames := 0, cells := 0, slots := 0, locals := 0 }) (va_Pc [.int a0, .int a1] (pw_Pre G μ)) (va_Qi (fun (r1 : Int32) (u : pw_Mem) => r1 = r ∧ u = μ') (pw_B G) (gA G)) 0 0 (gA G) := by
  refine pw_met (lv := [(0, .int a0), (1, .int a1)]) (own := RX6) (cc := cX6_isA) (maxL := 2) (ret := some .boolean) hG rfl (by decide) rfl rfl (Nat.le_of_ble_eq_true rfl) ?_
  intro p e s m below meth c C
  unfold fn_X6_isA at h
  refine pw_iload_n C dX6_isA_0 rfl 1 rfl ?_
  refine fn_jn0_s (fun m34 => pw_Go p l e ({ frames := 0, cells := 0, slots := 0, locals := 0 }) s m (([.int a0, .int a1] : List Value).toArray) below meth c (MQ below (va_Qi (fun (r1 : Int32) (u : pw_Mem) => r1 = r ∧ u = μ') (pw_B G) (gA G)) (([.int a0, .int a1] : List Value).toArray) s 0 0 (gA G)) G 2 34 [] [] m34) h (fun m34 h => ?_) (fun k34 hk34 h => ?_)
  · refine pw_iconst (v := (1 : Int32)) C dX6_isA_34 (by decide) ?_
    refine pw_goto (tgt := 39) C dX6_isA_35 (by decide) ?_
    obtain ⟨hz39, h⟩ := fn_bz_s h
    exact pw_zret C hz39 h dX6_isA_39
  · refine pw_if_eq (tgt := 34) C dX6_isA_1 (by decide) (fun c1 => ?_) (fun c1 => ?_)
    · have h := fn_pos c1 h
      refine pw_sub [] rfl ?_
      exact hk34 _ h
    · have h := fn_neg c1 h
      refine pw_iload_n C dX6_isA_4 rfl 1 rfl ?_
      refine pw_iload_n C dX6_isA_5 rfl 0 rfl ?_
      refine pw_icmp_eq (tgt := 34) C dX6_isA_6 (by decide) (fun c6 => ?_) (fun c6 => ?_)
      · have h := fn_pos c6 h
        refine pw_sub [] rfl ?_
        exact hk34 _ h
      · have h := fn_neg c6 h
        refine pw_iload_n C dX6_isA_9 rfl 1 rfl ?_
        refine pw_iconst (v := (1 : Int32)) C dX6_isA_10 (by decide) ?_
        refine fn_jn0_s (fun m24 => pw_Go p l e ({ frames := 0, cells := 0, slots := 0, locals := 0 }) s m (([.int a0, .int a1] : List Value).toArray) below meth c (MQ below (va_Qi (fun (r1 : Int32) (u : pw_Mem) => r1 = r ∧ u = μ') (pw_B G) (gA G)) (([.int a0, .int a1] : List Value).toArray) s 0 0 (gA G)) G 2 24 [(0, .int a0), (1, .int a1)] [] m24) h (fun m24 h => ?_) (fun k24 hk24 h => ?_)
        · refine pw_iload_n C dX6_isA_24 rfl 1 rfl ?_
          refine pw_iconst (v := (4 : Int32)) C dX6_isA_25 (by decide) ?_
          refine pw_icmp_ne (tgt := 38) C dX6_isA_26 (by decide) (fun c26 => ?_) (fun c26 => ?_)
          · have h := fn_pos c26 h
            refine pw_iconst (v := (0 : Int32)) C dX6_isA_38 (by decide) ?_
            obtain ⟨hz39, h⟩ := fn_bz_s h
            exact pw_zret C hz39 h dX6_isA_39
          · have h := fn_neg c26 h
            refine pw_iload_n C dX6_isA_29 rfl 0 rfl ?_
            refine pw_iconst (v := (5 : Int32)) C dX6_isA_30 (by decide) ?_
            refine pw_icmp_ne (tgt := 38) C dX6_isA_31 (by decide) (fun c31 => ?_) (fun c31 => ?_)
            · have h := fn_pos c31 h
              refine pw_iconst (v := (0 : Int32)) C dX6_isA_38 (by decide) ?_
              obtain ⟨hz39, h⟩ := fn_bz_s h
              exact pw_zret C hz39 h dX6_isA_39
            · have h := fn_neg c31 h
              refine pw_sub [] rfl ?_
              exact hk34 _ h
        · refine pw_icmp_ne (tgt := 24) C dX6_isA_11 (by decide) (fun c11 => ?_) (fun c11 => ?_)
          · have h := fn_pos c11 h
            exact hk24 _ h
          · have h := fn_neg c11 h
            refine pw_iload_n C dX6_isA_14 rfl 0 rfl ?_
            refine pw_iconst (v := (2 : Int32)) C dX6_isA_15 (by decide) ?_
            refine pw_icmp_eq (tgt := 34) C dX6_isA_16 (by decide) (fun c16 => ?_) (fun c16 => ?_)
            · have h := fn_pos c16 h
              refine pw_sub [] rfl ?_
              exact hk34 _ h
            · have h := fn_neg c16 h
              refine pw_iload_n C dX6_isA_19 rfl 0 rfl ?_
              refine pw_iconst (v := (3 : Int32)) C dX6_isA_20 (by decide) ?_
              refine pw_icmp_eq (tgt := 34) C dX6_isA_21 (by decide) (fun c21 => ?_) (fun c21 => ?_)
              · have h := fn_pos c21 h
                refine pw_sub [] rfl ?_
                exact hk34 _ h
              · have h := fn_neg c21 h
                exact hk24 _ h
set_option maxHeartbeats 4000000 in
set_option maxRecDepth 100000 in
theorem ct_X6_as (l : Launch) {G : pw_G} (hG : pw_Ok G) {a1 : Int32} {a2 : Int32}  {μ μ' : pw_Mem} {r : Int32} (h : fn_X6_as a1 a2 μ = some (r, μ')) : Met l yX6_as wsX6_as ({ frames := 2, cells := 0, slots := 0, locals := 46 }) (va_Pc [.ref (gad G 54), .int a1, .int a2] (pw_Pre G μ)) (va_Qi (fun (r1 : Int32) (u : pw_Mem) => r1 = r ∧ u = μ') (pw_B G) (gA G)) 0 0 (gA G) := by
  refine pw_met (lv := [(0, .ref (gad G 54)), (1, .int a1), (2, .int a2)]) (own := RX6) (cc := cX6_as) (maxL := 3) (ret := some .int) hG rfl (by decide) rfl rfl (Nat.le_of_ble_eq_true rfl) ?_
  intro p e s m below meth c C
  have iX6 : ∀ w ∈ u_ws RX6 TX6 16, w ∈ wsX6_as := fun _ h => List.mem_cons_of_mem _ (List.mem_append_right _ (h))
  have k1 := C.2.2.2.2.1 (.constantLong RX6 206 (5)) (List.mem_cons_of_mem _ (List.mem_append_left _ (List.mem_of_getElem? (i := 0) rfl)))
  have k2 := C.2.2.2.2.1 (.constant RX6 51 (-1000001)) (List.mem_cons_of_mem _ (List.mem_append_left _ (List.mem_of_getElem? (i := 1) rfl)))
  have k3 := C.2.2.2.2.1 (.fieldLink RX6 7 "PulpitRoadsModel" "w" "[I") (List.mem_cons_of_mem _ (List.mem_append_left _ (List.mem_of_getElem? (i := 2) rfl)))
  have k4 := C.2.2.2.2.1 (.fieldLink RX6 40 "PulpitRoadsModel" "status" "I") (List.mem_cons_of_mem _ (List.mem_append_left _ (List.mem_of_getElem? (i := 3) rfl)))
  unfold fn_X6_as at h
  refine pw_aload_n C dX6_as_0 rfl 0 rfl ?_
  refine pw_iload_n C dX6_as_1 rfl 1 rfl ?_
  obtain ⟨r2, m2, hc2, h⟩ := fn_bi_s h
  refine pw_callVi (rest := []) C (by decide) (pw_sh_54 _) rfl (ct_X6_isPulpit l C.2.2.2.2.2.2.2.2 hc2) (cwV 1 C.2.2.2.2.1 gX6_as_X6_isPulpit rfl rfl rfl (by decide +kernel) ⟨Nat.le_of_ble_eq_true rfl, Nat.le_of_ble_eq_true rfl⟩) rfl rfl (Nat.le_of_ble_eq_true rfl) dX6_as_2 ?_
  refine pw_if_eq (tgt := 20) C dX6_as_5 (by decide) (fun c5 => ?_) (fun c5 => ?_)
  · have h := fn_pos c5 h
    refine pw_ldc C k2 dX6_as_20 ?_
    exact pw_iret C h dX6_as_22
  · have h := fn_neg c5 h
    refine pw_iload_n C dX6_as_8 rfl 2 rfl ?_
    refine pw_i2l C dX6_as_9 ?_
    refine pw_lconst (v := (0 : Int64)) C dX6_as_10 (by decide) ?_
    refine pw_ldc2 C k1 dX6_as_11 ?_
    obtain ⟨r14, m14, hc14, h⟩ := fn_bi_s h
    refine pw_callSi (rest := []) C (ct_X6_in l C.2.2.2.2.2.2.2.2 hc14) (va_cwS 3 C.2.2.2.2.1 gX6_as_X6_in rfl rfl rfl (by decide +kernel) ⟨Nat.le_of_ble_eq_true rfl, Nat.le_of_ble_eq_true rfl⟩) rfl rfl (Nat.le_of_ble_eq_true rfl) dX6_as_14 ?_
    refine pw_if_ne (tgt := 23) C dX6_as_17 (by decide) (fun c17 => ?_) (fun c17 => ?_)
    · have h := fn_pos c17 h
      refine pw_aload_n C dX6_as_23 rfl 0 rfl ?_
      refine pw_get (v := .ref (gad G 55)) C iX6 (by decide) (pw_sh_54 _) rfl 0 (by decide) k3 rfl dX6_as_24 ?_
      refine pw_bipush (v := (13 : Int32)) C dX6_as_27 (by decide) ?_
      refine pw_iload_n C dX6_as_29 rfl 1 rfl ?_
      refine pw_iadd C dX6_as_30 ?_
      obtain ⟨hi31, h⟩ := fn_ix_s h
      refine pw_iald C (by decide) (pw_sh_55 _) hi31 dX6_as_31 ?_
      refine pw_iload_n C dX6_as_32 rfl 2 rfl ?_
      obtain ⟨r33, m33, hc33, h⟩ := fn_bi_s h
      refine pw_callSi (rest := []) C (ct_X6_isA l C.2.2.2.2.2.2.2.2 hc33) (va_cwS 2 C.2.2.2.2.1 gX6_as_X6_isA rfl rfl rfl (by decide +kernel) ⟨Nat.le_of_ble_eq_true rfl, Nat.le_of_ble_eq_true rfl⟩) rfl rfl (Nat.le_of_ble_eq_true rfl) dX6_as_33 ?_
      refine pw_if_ne (tgt := 45) C dX6_as_36 (by decide) (fun c36 => ?_) (fun c36 => ?_)
      · have h := fn_pos c36 h
        refine pw_aload_n C dX6_as_45 rfl 0 rfl ?_
        refine pw_iconst (v := (0 : Int32)) C dX6_as_46 (by decide) ?_
        refine pw_put (host := "PulpitRoads") (ty := .int) C iX6 tyX6 tyX6_ok nmX6 (by decide) (pw_sh_54 _) rfl 5 (by decide) (pw_sh_54 _) k4 rfl (by decide +kernel) (fn_int _) (Nat.le_of_ble_eq_true rfl) dX6_as_47 ?_
        refine pw_iload_n C dX6_as_50 rfl 1 rfl ?_
        exact pw_iret C h dX6_as_51
      · have h := fn_neg c36 h
        refine pw_aload_n C dX6_as_39 rfl 0 rfl ?_
        refine pw_iconst (v := (3 : Int32)) C dX6_as_40 (by decide) ?_
        obtain ⟨r41, m41, hc41, h⟩ := fn_bi_s h
        refine pw_callVi (rest := []) C (by decide) (pw_sh_54 _) rfl (ct_X6_finds l C.2.2.2.2.2.2.2.2 hc41) (cwV 1 C.2.2.2.2.1 gX6_as_X6_finds rfl rfl rfl (by decide +kernel) ⟨Nat.le_of_ble_eq_true rfl, Nat.le_of_ble_eq_true rfl⟩) rfl rfl (Nat.le_of_ble_eq_true rfl) dX6_as_41 ?_
        exact pw_iret C h dX6_as_44
    · have h := fn_neg c17 h
      refine pw_ldc C k2 dX6_as_20 ?_
      exact pw_iret C h dX6_as_22
set_option maxHeartbeats 4000000 in
set_option maxRecDepth 100000 in
theorem ct_X6_traces (l : Launch) {G : pw_G} (hG : pw_Ok G) {a1 : Int32}  {μ μ' : pw_Mem} (h : fn_X6_traces a1 μ = some μ') : Met l yX6_traces wsX6_traces ({ frames := 0, cells := 0, slots := 0, locals := 0 }) (va_Pc [.ref (gad G 54), .int a1] (pw_Pre G μ)) (va_Qv (fun (u : pw_Mem) => u = μ') (pw_B G) (gA G)) 0 0 (gA G) := by
  refine pw_met (lv := [(0, .ref (gad G 54)), (1, .int a1)]) (own := RX6) (cc := cX6_traces) (maxL := 2) (ret := none) hG rfl (by decide) rfl rfl (Nat.le_of_ble_eq_true rfl) ?_
  intro p e s m below meth c C
  have iX6 : ∀ w ∈ u_ws RX6 TX6 16, w ∈ wsX6_traces := fun _ h => List.mem_cons_of_mem _ (List.mem_append_right _ (h))
  have k1 := C.2.2.2.2.1 (.fieldLink RX6 211 "PulpitRoadsModel" "traced" "I") (List.mem_cons_of_mem _ (List.mem_append_left _ (List.mem_of_getElem? (i := 0) rfl)))
  have k2 := C.2.2.2.2.1 (.fieldLink RX6 31 "PulpitRoadsModel" "trace" "[I") (List.mem_cons_of_mem _ (List.mem_append_left _ (List.mem_of_getElem? (i := 1) rfl)))
  unfold fn_X6_traces at h
  refine pw_aload_n C dX6_traces_0 rfl 0 rfl ?_
  refine pw_get (v := .int (μ 54 15)) C iX6 (by decide) (pw_sh_54 _) rfl 15 (by decide) k1 rfl dX6_traces_1 ?_
  refine pw_bipush (v := (16 : Int32)) C dX6_traces_4 (by decide) ?_
  refine pw_icmp_ge (tgt := 29) C dX6_traces_6 (by decide) (fun c6 => ?_) (fun c6 => ?_)
  · have h := fn_pos c6 h
    exact pw_vret C h dX6_traces_29
  · have h := fn_neg c6 h
    refine pw_aload_n C dX6_traces_9 rfl 0 rfl ?_
    refine pw_get (v := .ref (gad G 62)) C iX6 (by decide) (pw_sh_54 _) rfl 14 (by decide) k2 rfl dX6_traces_10 ?_
    refine pw_aload_n C dX6_traces_13 rfl 0 rfl ?_
    refine pw_get (v := .int (μ 54 15)) C iX6 (by decide) (pw_sh_54 _) rfl 15 (by decide) k1 rfl dX6_traces_14 ?_
    refine pw_iload_n C dX6_traces_17 rfl 1 rfl ?_
    obtain ⟨hi18, h⟩ := fn_ix_s h
    refine pw_iast C (by decide) pw_sh_62 hi18 dX6_traces_18 ?_
    refine pw_aload_n C dX6_traces_19 rfl 0 rfl ?_
    refine pw_dup C dX6_traces_20 rfl ?_
    refine pw_get (v := .int ((pw_st μ 62 ((μ 54 15)).toNatClampNeg a1) 54 15)) C iX6 (by decide) (pw_sh_54 _) rfl 15 (by decide) k1 rfl dX6_traces_21 ?_
    refine pw_iconst (v := (1 : Int32)) C dX6_traces_24 (by decide) ?_
    refine pw_iadd C dX6_traces_25 ?_
    refine pw_put (host := "PulpitRoads") (ty := .int) C iX6 tyX6 tyX6_ok nmX6 (by decide) (pw_sh_54 _) rfl 15 (by decide) (pw_sh_54 _) k1 rfl (by decide +kernel) (fn_int _) (Nat.le_of_ble_eq_true rfl) dX6_traces_26 ?_
    exact pw_vret C h dX6_traces_29
set_option maxHeartbeats 4000000 in
set_option maxRecDepth 100000 in
theorem ct_X6_size10 (l : Launch) {G : pw_G} (hG : pw_Ok G) {a1 : Int32}  {μ μ' : pw_Mem} {r : Int32} (h : fn_X6_size10 a1 μ = some (r, μ')) : Met l yX6_size10 wsX6_size10 ({ frames := 1, cells := 0, slots := 0, locals := 21 }) (va_Pc [.ref (gad G 54), .int a1] (pw_Pre G μ)) (va_Qi (fun (r1 : Int32) (u : pw_Mem) => r1 = r ∧ u = μ') (pw_B G) (gA G)) 0 0 (gA G) := by
  refine pw_met (lv := [(0, .ref (gad G 54)), (1, .int a1)]) (own := RX6) (cc := cX6_size10) (maxL := 2) (ret := some .int) hG rfl (by decide) rfl rfl (Nat.le_of_ble_eq_true rfl) ?_
  intro p e s m below meth c C
  have iX6 : ∀ w ∈ u_ws RX6 TX6 16, w ∈ wsX6_size10 := fun _ h => List.mem_cons_of_mem _ (List.mem_append_right _ (h))
  have k1 := C.2.2.2.2.1 (.fieldLink RX6 7 "PulpitRoadsModel" "w" "[I") (List.mem_cons_of_mem _ (List.mem_append_left _ (List.mem_of_getElem? (i := 0) rfl)))
  unfold fn_X6_size10 at h
  refine pw_aload_n C dX6_size10_0 rfl 0 rfl ?_
  refine pw_bipush (v := (10 : Int32)) C dX6_size10_1 (by decide) ?_
  obtain ⟨m3, hc3, h⟩ := fn_bv_s h
  refine pw_callVv (rest := []) C (by decide) (pw_sh_54 _) rfl (ct_X6_traces l C.2.2.2.2.2.2.2.2 hc3) (cwV 1 C.2.2.2.2.1 gX6_size10_X6_traces rfl rfl rfl (by decide +kernel) ⟨Nat.le_of_ble_eq_true rfl, Nat.le_of_ble_eq_true rfl⟩) rfl rfl (Nat.le_of_ble_eq_true rfl) dX6_size10_3 ?_
  refine pw_aload_n C dX6_size10_6 rfl 0 rfl ?_
  refine pw_get (v := .ref (gad G 55)) C iX6 (by decide) (pw_sh_54 _) rfl 0 (by decide) k1 rfl dX6_size10_7 ?_
  refine pw_bipush (v := (24 : Int32)) C dX6_size10_10 (by decide) ?_
  refine pw_iload_n C dX6_size10_12 rfl 1 rfl ?_
  refine pw_iadd C dX6_size10_13 ?_
  obtain ⟨hi14, h⟩ := fn_ix_s h
  refine pw_iald C (by decide) (pw_sh_55 _) hi14 dX6_size10_14 ?_
  exact pw_iret C h dX6_size10_15
set_option maxHeartbeats 4000000 in
set_option maxRecDepth 100000 in
theorem ct_X6_mark20 (l : Launch) {G : pw_G} (hG : pw_Ok G) {a1 : Int32}  {μ μ' : pw_Mem} {r : Int32} (h : fn_X6_mark20 a1 μ = some (r, μ')) : Met l yX6_mark20 wsX6_mark20 ({ frames := 1, cells := 0, slots := 0, locals := 21 }) (va_Pc [.ref (gad G 54), .int a1] (pw_Pre G μ)) (va_Qi (fun (r1 : Int32) (u : pw_Mem) => r1 = r ∧ u = μ') (pw_B G) (gA G)) 0 0 (gA G) := by
  refine pw_met (lv := [(0, .ref (gad G 54)), (1, .int a1)]) (own := RX6) (cc := cX6_mark20) (maxL := 2) (ret := some .int) hG rfl (by decide) rfl rfl (Nat.le_of_ble_eq_true rfl) ?_
  intro p e s m below meth c C
  unfold fn_X6_mark20 at h
  refine pw_aload_n C dX6_mark20_0 rfl 0 rfl ?_
  refine pw_bipush (v := (20 : Int32)) C dX6_mark20_1 (by decide) ?_
  obtain ⟨m3, hc3, h⟩ := fn_bv_s h
  refine pw_callVv (rest := []) C (by decide) (pw_sh_54 _) rfl (ct_X6_traces l C.2.2.2.2.2.2.2.2 hc3) (cwV 1 C.2.2.2.2.1 gX6_mark20_X6_traces rfl rfl rfl (by decide +kernel) ⟨Nat.le_of_ble_eq_true rfl, Nat.le_of_ble_eq_true rfl⟩) rfl rfl (Nat.le_of_ble_eq_true rfl) dX6_mark20_3 ?_
  refine pw_iload_n C dX6_mark20_6 rfl 1 rfl ?_
  exact pw_iret C h dX6_mark20_7
set_option maxHeartbeats 4000000 in
set_option maxRecDepth 100000 in
theorem ct_X6_mark21 (l : Launch) {G : pw_G} (hG : pw_Ok G) {a1 : Int32}  {μ μ' : pw_Mem} {r : Int32} (h : fn_X6_mark21 a1 μ = some (r, μ')) : Met l yX6_mark21 wsX6_mark21 ({ frames := 2, cells := 0, slots := 0, locals := 42 }) (va_Pc [.ref (gad G 54), .int a1] (pw_Pre G μ)) (va_Qi (fun (r1 : Int32) (u : pw_Mem) => r1 = r ∧ u = μ') (pw_B G) (gA G)) 0 0 (gA G) := by
  refine pw_met (lv := [(0, .ref (gad G 54)), (1, .int a1)]) (own := RX6) (cc := cX6_mark21) (maxL := 2) (ret := some .int) hG rfl (by decide) rfl rfl (Nat.le_of_ble_eq_true rfl) ?_
  intro p e s m below meth c C
  have iX6 : ∀ w ∈ u_ws RX6 TX6 16, w ∈ wsX6_mark21 := fun _ h => List.mem_cons_of_mem _ (List.mem_append_right _ (h))
  have k1 := C.2.2.2.2.1 (.fieldLink RX6 7 "PulpitRoadsModel" "w" "[I") (List.mem_cons_of_mem _ (List.mem_append_left _ (List.mem_of_getElem? (i := 0) rfl)))
  unfold fn_X6_mark21 at h
  refine pw_aload_n C dX6_mark21_0 rfl 0 rfl ?_
  refine pw_bipush (v := (21 : Int32)) C dX6_mark21_1 (by decide) ?_
  obtain ⟨m3, hc3, h⟩ := fn_bv_s h
  refine pw_callVv (rest := []) C (by decide) (pw_sh_54 _) rfl (ct_X6_traces l C.2.2.2.2.2.2.2.2 hc3) (cwV 1 C.2.2.2.2.1 gX6_mark21_X6_traces rfl rfl rfl (by decide +kernel) ⟨Nat.le_of_ble_eq_true rfl, Nat.le_of_ble_eq_true rfl⟩) rfl rfl (Nat.le_of_ble_eq_true rfl) dX6_mark21_3 ?_
  refine pw_aload_n C dX6_mark21_6 rfl 0 rfl ?_
  refine pw_iload_n C dX6_mark21_7 rfl 1 rfl ?_
  obtain ⟨r8, m8, hc8, h⟩ := fn_bi_s h
  refine pw_callVi (rest := []) C (by decide) (pw_sh_54 _) rfl (ct_X6_mark20 l C.2.2.2.2.2.2.2.2 hc8) (cwV 1 C.2.2.2.2.1 gX6_mark21_X6_mark20 rfl rfl rfl (by decide +kernel) ⟨Nat.le_of_ble_eq_true rfl, Nat.le_of_ble_eq_true rfl⟩) rfl rfl (Nat.le_of_ble_eq_true rfl) dX6_mark21_8 ?_
  refine pw_aload_n C dX6_mark21_11 rfl 0 rfl ?_
  refine pw_get (v := .ref (gad G 55)) C iX6 (by decide) (pw_sh_54 _) rfl 0 (by decide) k1 rfl dX6_mark21_12 ?_
  refine pw_bipush (v := (19 : Int32)) C dX6_mark21_15 (by decide) ?_
  refine pw_iload_n C dX6_mark21_17 rfl 1 rfl ?_
  refine pw_iadd C dX6_mark21_18 ?_
  obtain ⟨hi19, h⟩ := fn_ix_s h
  refine pw_iald C (by decide) (pw_sh_55 _) hi19 dX6_mark21_19 ?_
  refine pw_iadd C dX6_mark21_20 ?_
  exact pw_iret C h dX6_mark21_21
set_option maxHeartbeats 4000000 in
set_option maxRecDepth 100000 in
theorem ct_X6_markOf (l : Launch) {G : pw_G} (hG : pw_Ok G) {a1 : Int32}  {μ μ' : pw_Mem} {r : Int32} (h : fn_X6_markOf a1 μ = some (r, μ')) : Met l yX6_markOf wsX6_markOf ({ frames := 3, cells := 0, slots := 0, locals := 63 }) (va_Pc [.ref (gad G 54), .int a1] (pw_Pre G μ)) (va_Qi (fun (r1 : Int32) (u : pw_Mem) => r1 = r ∧ u = μ') (pw_B G) (gA G)) 0 0 (gA G) := by
  refine pw_met (lv := [(0, .ref (gad G 54)), (1, .int a1)]) (own := RX6) (cc := cX6_markOf) (maxL := 2) (ret := some .int) hG rfl (by decide) rfl rfl (Nat.le_of_ble_eq_true rfl) ?_
  intro p e s m below meth c C
  have iX6 : ∀ w ∈ u_ws RX6 TX6 16, w ∈ wsX6_markOf := fun _ h => List.mem_cons_of_mem _ (List.mem_append_right _ (h))
  have k1 := C.2.2.2.2.1 (.fieldLink RX6 7 "PulpitRoadsModel" "w" "[I") (List.mem_cons_of_mem _ (List.mem_append_left _ (List.mem_of_getElem? (i := 0) rfl)))
  unfold fn_X6_markOf at h
  refine pw_aload_n C dX6_markOf_0 rfl 0 rfl ?_
  refine pw_get (v := .ref (gad G 55)) C iX6 (by decide) (pw_sh_54 _) rfl 0 (by decide) k1 rfl dX6_markOf_1 ?_
  refine pw_bipush (v := (13 : Int32)) C dX6_markOf_4 (by decide) ?_
  refine pw_iload_n C dX6_markOf_6 rfl 1 rfl ?_
  refine pw_iadd C dX6_markOf_7 ?_
  obtain ⟨hi8, h⟩ := fn_ix_s h
  refine pw_iald C (by decide) (pw_sh_55 _) hi8 dX6_markOf_8 ?_
  by_cases c9_2 : (μ 55 (((13 : Int32) + a1)).toNatClampNeg) = 2
  · have h := fn_pos c9_2 h
    refine pw_look (tgt := 36) C dX6_markOf_9 (by decide) (by rw [c9_2]; try decide) (by decide) ?_
    refine pw_aload_n C dX6_markOf_36 rfl 0 rfl ?_
    refine pw_bipush (v := (24 : Int32)) C dX6_markOf_37 (by decide) ?_
    obtain ⟨m39, hc39, h⟩ := fn_bv_s h
    refine pw_callVv (rest := []) C (by decide) (pw_sh_54 _) rfl (ct_X6_traces l C.2.2.2.2.2.2.2.2 hc39) (cwV 1 C.2.2.2.2.1 gX6_markOf_X6_traces rfl rfl rfl (by decide +kernel) ⟨Nat.le_of_ble_eq_true rfl, Nat.le_of_ble_eq_true rfl⟩) rfl rfl (Nat.le_of_ble_eq_true rfl) dX6_markOf_39 ?_
    refine pw_iconst (v := (2 : Int32)) C dX6_markOf_42 (by decide) ?_
    refine pw_aload_n C dX6_markOf_43 rfl 0 rfl ?_
    refine pw_iload_n C dX6_markOf_44 rfl 1 rfl ?_
    obtain ⟨r45, m45, hc45, h⟩ := fn_bi_s h
    refine pw_callVi (rest := [.int (2 : Int32)]) C (by decide) (pw_sh_54 _) rfl (ct_X6_mark21 l C.2.2.2.2.2.2.2.2 hc45) (cwV 1 C.2.2.2.2.1 gX6_markOf_X6_mark21 rfl rfl rfl (by decide +kernel) ⟨Nat.le_of_ble_eq_true rfl, Nat.le_of_ble_eq_true rfl⟩) rfl rfl (Nat.le_of_ble_eq_true rfl) dX6_markOf_45 ?_
    refine pw_imul C dX6_markOf_48 ?_
    exact pw_iret C h dX6_markOf_49
  · have h := fn_neg c9_2 h
    have n9_2 := pw_neI c9_2 (show (2 : Int32).toInt = 2 by decide)
    by_cases c9_3 : (μ 55 (((13 : Int32) + a1)).toNatClampNeg) = 3
    · have h := fn_pos c9_3 h
      refine pw_look (tgt := 50) C dX6_markOf_9 (by decide) (by rw [c9_3]; try decide) (by decide) ?_
      refine pw_aload_n C dX6_markOf_50 rfl 0 rfl ?_
      refine pw_bipush (v := (22 : Int32)) C dX6_markOf_51 (by decide) ?_
      obtain ⟨m53, hc53, h⟩ := fn_bv_s h
      refine pw_callVv (rest := []) C (by decide) (pw_sh_54 _) rfl (ct_X6_traces l C.2.2.2.2.2.2.2.2 hc53) (cwV 1 C.2.2.2.2.1 gX6_markOf_X6_traces rfl rfl rfl (by decide +kernel) ⟨Nat.le_of_ble_eq_true rfl, Nat.le_of_ble_eq_true rfl⟩) rfl rfl (Nat.le_of_ble_eq_true rfl) dX6_markOf_53 ?_
      refine pw_aload_n C dX6_markOf_56 rfl 0 rfl ?_
      refine pw_iload_n C dX6_markOf_57 rfl 1 rfl ?_
      obtain ⟨r58, m58, hc58, h⟩ := fn_bi_s h
      refine pw_callVi (rest := []) C (by decide) (pw_sh_54 _) rfl (ct_X6_mark21 l C.2.2.2.2.2.2.2.2 hc58) (cwV 1 C.2.2.2.2.1 gX6_markOf_X6_mark21 rfl rfl rfl (by decide +kernel) ⟨Nat.le_of_ble_eq_true rfl, Nat.le_of_ble_eq_true rfl⟩) rfl rfl (Nat.le_of_ble_eq_true rfl) dX6_markOf_58 ?_
      refine pw_sipush (v := (1000 : Int32)) C dX6_markOf_61 (by decide) ?_
      refine pw_isub C dX6_markOf_64 ?_
      exact pw_iret C h dX6_markOf_65
    · have h := fn_neg c9_3 h
      have n9_3 := pw_neI c9_3 (show (3 : Int32).toInt = 3 by decide)
      refine pw_look (tgt := 66) (off := 57) C dX6_markOf_9 (by decide) (by simp only [Op.lookupswitch.offset, if_neg (Ne.symm n9_2), if_neg (Ne.symm n9_3)]) (by decide) ?_
      refine pw_aload_n C dX6_markOf_66 rfl 0 rfl ?_
      refine pw_iload_n C dX6_markOf_67 rfl 1 rfl ?_
      obtain ⟨r68, m68, hc68, h⟩ := fn_bi_s h
      refine pw_callVi (rest := []) C (by decide) (pw_sh_54 _) rfl (ct_X6_mark21 l C.2.2.2.2.2.2.2.2 hc68) (cwV 1 C.2.2.2.2.1 gX6_markOf_X6_mark21 rfl rfl rfl (by decide +kernel) ⟨Nat.le_of_ble_eq_true rfl, Nat.le_of_ble_eq_true rfl⟩) rfl rfl (Nat.le_of_ble_eq_true rfl) dX6_markOf_68 ?_
      exact pw_iret C h dX6_markOf_71
set_option maxHeartbeats 4000000 in
set_option maxRecDepth 100000 in
theorem ct_X6_size11 (l : Launch) {G : pw_G} (hG : pw_Ok G) {a1 : Int32}  {μ μ' : pw_Mem} {r : Int32} (h : fn_X6_size11 a1 μ = some (r, μ')) : Met l yX6_size11 wsX6_size11 ({ frames := 4, cells := 0, slots := 0, locals := 84 }) (va_Pc [.ref (gad G 54), .int a1] (pw_Pre G μ)) (va_Qi (fun (r1 : Int32) (u : pw_Mem) => r1 = r ∧ u = μ') (pw_B G) (gA G)) 0 0 (gA G) := by
  refine pw_met (lv := [(0, .ref (gad G 54)), (1, .int a1)]) (own := RX6) (cc := cX6_size11) (maxL := 3) (ret := some .int) hG rfl (by decide) rfl rfl (Nat.le_of_ble_eq_true rfl) ?_
  intro p e s m below meth c C
  unfold fn_X6_size11 at h
  refine pw_aload_n C dX6_size11_0 rfl 0 rfl ?_
  refine pw_bipush (v := (11 : Int32)) C dX6_size11_1 (by decide) ?_
  obtain ⟨m3, hc3, h⟩ := fn_bv_s h
  refine pw_callVv (rest := []) C (by decide) (pw_sh_54 _) rfl (ct_X6_traces l C.2.2.2.2.2.2.2.2 hc3) (cwV 1 C.2.2.2.2.1 gX6_size11_X6_traces rfl rfl rfl (by decide +kernel) ⟨Nat.le_of_ble_eq_true rfl, Nat.le_of_ble_eq_true rfl⟩) rfl rfl (Nat.le_of_ble_eq_true rfl) dX6_size11_3 ?_
  refine pw_aload_n C dX6_size11_6 rfl 0 rfl ?_
  refine pw_iload_n C dX6_size11_7 rfl 1 rfl ?_
  obtain ⟨r8, m8, hc8, h⟩ := fn_bi_s h
  refine pw_callVi (rest := []) C (by decide) (pw_sh_54 _) rfl (ct_X6_size10 l C.2.2.2.2.2.2.2.2 hc8) (cwV 1 C.2.2.2.2.1 gX6_size11_X6_size10 rfl rfl rfl (by decide +kernel) ⟨Nat.le_of_ble_eq_true rfl, Nat.le_of_ble_eq_true rfl⟩) rfl rfl (Nat.le_of_ble_eq_true rfl) dX6_size11_8 ?_
  refine pw_istore_n (lv' := [(2, .int r8), (0, .ref (gad G 54)), (1, .int a1)]) C dX6_size11_11 rfl (by decide) rfl ?_
  refine pw_iload_n C dX6_size11_12 rfl 0 rfl ?_
  refine pw_aload_n C dX6_size11_13 rfl 1 rfl ?_
  refine pw_iload_n C dX6_size11_14 rfl 2 rfl ?_
  obtain ⟨r15, m15, hc15, h⟩ := fn_bi_s h
  refine pw_callVi (rest := [.int r8]) C (by decide) (pw_sh_54 _) rfl (ct_X6_markOf l C.2.2.2.2.2.2.2.2 hc15) (cwV 1 C.2.2.2.2.1 gX6_size11_X6_markOf rfl rfl rfl (by decide +kernel) ⟨Nat.le_of_ble_eq_true rfl, Nat.le_of_ble_eq_true rfl⟩) rfl rfl (Nat.le_of_ble_eq_true rfl) dX6_size11_15 ?_
  refine pw_iadd C dX6_size11_18 ?_
  exact pw_iret C h dX6_size11_19
set_option maxHeartbeats 4000000 in
set_option maxRecDepth 100000 in
theorem ct_X6_size13 (l : Launch) {G : pw_G} (hG : pw_Ok G) {a1 : Int32}  {μ μ' : pw_Mem} {r : Int32} (h : fn_X6_size13 a1 μ = some (r, μ')) : Met l yX6_size13 wsX6_size13 ({ frames := 2, cells := 0, slots := 0, locals := 42 }) (va_Pc [.ref (gad G 54), .int a1] (pw_Pre G μ)) (va_Qi (fun (r1 : Int32) (u : pw_Mem) => r1 = r ∧ u = μ') (pw_B G) (gA G)) 0 0 (gA G) := by
  refine pw_met (lv := [(0, .ref (gad G 54)), (1, .int a1)]) (own := RX6) (cc := cX6_size13) (maxL := 2) (ret := some .int) hG rfl (by decide) rfl rfl (Nat.le_of_ble_eq_true rfl) ?_
  intro p e s m below meth c C
  unfold fn_X6_size13 at h
  refine pw_aload_n C dX6_size13_0 rfl 0 rfl ?_
  refine pw_bipush (v := (13 : Int32)) C dX6_size13_1 (by decide) ?_
  obtain ⟨m3, hc3, h⟩ := fn_bv_s h
  refine pw_callVv (rest := []) C (by decide) (pw_sh_54 _) rfl (ct_X6_traces l C.2.2.2.2.2.2.2.2 hc3) (cwV 1 C.2.2.2.2.1 gX6_size13_X6_traces rfl rfl rfl (by decide +kernel) ⟨Nat.le_of_ble_eq_true rfl, Nat.le_of_ble_eq_true rfl⟩) rfl rfl (Nat.le_of_ble_eq_true rfl) dX6_size13_3 ?_
  refine pw_aload_n C dX6_size13_6 rfl 0 rfl ?_
  refine pw_iload_n C dX6_size13_7 rfl 1 rfl ?_
  obtain ⟨r8, m8, hc8, h⟩ := fn_bi_s h
  refine pw_callVi (rest := []) C (by decide) (pw_sh_54 _) rfl (ct_X6_size10 l C.2.2.2.2.2.2.2.2 hc8) (cwV 1 C.2.2.2.2.1 gX6_size13_X6_size10 rfl rfl rfl (by decide +kernel) ⟨Nat.le_of_ble_eq_true rfl, Nat.le_of_ble_eq_true rfl⟩) rfl rfl (Nat.le_of_ble_eq_true rfl) dX6_size13_8 ?_
  refine pw_bipush (v := (100 : Int32)) C dX6_size13_11 (by decide) ?_
  refine pw_isub C dX6_size13_13 ?_
  exact pw_iret C h dX6_size13_14
set_option maxHeartbeats 4000000 in
set_option maxRecDepth 100000 in
theorem ct_X6_sizeOf (l : Launch) {G : pw_G} (hG : pw_Ok G) {a1 : Int32}  {μ μ' : pw_Mem} {r : Int32} (h : fn_X6_sizeOf a1 μ = some (r, μ')) : Met l yX6_sizeOf wsX6_sizeOf ({ frames := 5, cells := 0, slots := 0, locals := 106 }) (va_Pc [.ref (gad G 54), .int a1] (pw_Pre G μ)) (va_Qi (fun (r1 : Int32) (u : pw_Mem) => r1 = r ∧ u = μ') (pw_B G) (gA G)) 0 0 (gA G) := by
  refine pw_met (lv := [(0, .ref (gad G 54)), (1, .int a1)]) (own := RX6) (cc := cX6_sizeOf) (maxL := 2) (ret := some .int) hG rfl (by decide) rfl rfl (Nat.le_of_ble_eq_true rfl) ?_
  intro p e s m below meth c C
  have iX6 : ∀ w ∈ u_ws RX6 TX6 16, w ∈ wsX6_sizeOf := fun _ h => List.mem_cons_of_mem _ (List.mem_append_right _ (h))
  have k1 := C.2.2.2.2.1 (.fieldLink RX6 7 "PulpitRoadsModel" "w" "[I") (List.mem_cons_of_mem _ (List.mem_append_left _ (List.mem_append_left _ (List.mem_of_getElem? (i := 0) rfl))))
  unfold fn_X6_sizeOf at h
  refine pw_aload_n C dX6_sizeOf_0 rfl 0 rfl ?_
  refine pw_get (v := .ref (gad G 55)) C iX6 (by decide) (pw_sh_54 _) rfl 0 (by decide) k1 rfl dX6_sizeOf_1 ?_
  refine pw_bipush (v := (13 : Int32)) C dX6_sizeOf_4 (by decide) ?_
  refine pw_iload_n C dX6_sizeOf_6 rfl 1 rfl ?_
  refine pw_iadd C dX6_sizeOf_7 ?_
  obtain ⟨hi8, h⟩ := fn_ix_s h
  refine pw_iald C (by decide) (pw_sh_55 _) hi8 dX6_sizeOf_8 ?_
  by_cases c9_2 : (μ 55 (((13 : Int32) + a1)).toNatClampNeg) = 2
  · have h := fn_pos c9_2 h
    refine pw_tabIn (tgt := 40) C 2 c9_2 dX6_sizeOf_9 (by decide) (by decide) rfl (by decide) ?_
    refine pw_aload_n C dX6_sizeOf_40 rfl 0 rfl ?_
    refine pw_bipush (v := (12 : Int32)) C dX6_sizeOf_41 (by decide) ?_
    obtain ⟨m43, hc43, h⟩ := fn_bv_s h
    refine pw_callVv (rest := []) C (by decide) (pw_sh_54 _) rfl (ct_X6_traces l C.2.2.2.2.2.2.2.2 hc43) (cwV 1 C.2.2.2.2.1 gX6_sizeOf_X6_traces rfl rfl rfl (by decide +kernel) ⟨Nat.le_of_ble_eq_true rfl, Nat.le_of_ble_eq_true rfl⟩) rfl rfl (Nat.le_of_ble_eq_true rfl) dX6_sizeOf_43 ?_
    refine pw_aload_n C dX6_sizeOf_46 rfl 0 rfl ?_
    refine pw_iload_n C dX6_sizeOf_47 rfl 1 rfl ?_
    obtain ⟨r48, m48, hc48, h⟩ := fn_bi_s h
    refine pw_callVi (rest := []) C (by decide) (pw_sh_54 _) rfl (ct_X6_size11 l C.2.2.2.2.2.2.2.2 hc48) (cwV 1 C.2.2.2.2.1 gX6_sizeOf_X6_size11 rfl rfl rfl (by decide +kernel) ⟨Nat.le_of_ble_eq_true rfl, Nat.le_of_ble_eq_true rfl⟩) rfl rfl (Nat.le_of_ble_eq_true rfl) dX6_sizeOf_48 ?_
    refine pw_ineg C dX6_sizeOf_51 ?_
    exact pw_iret C h dX6_sizeOf_52
  · have h := fn_neg c9_2 h
    have n9_2 := pw_neI c9_2 (show (2 : Int32).toInt = 2 by decide)
    by_cases c9_4 : (μ 55 (((13 : Int32) + a1)).toNatClampNeg) = 4
    · have h := fn_pos c9_4 h
      refine pw_tabIn (tgt := 53) C 4 c9_4 dX6_sizeOf_9 (by decide) (by decide) rfl (by decide) ?_
      refine pw_aload_n C dX6_sizeOf_53 rfl 0 rfl ?_
      refine pw_iload_n C dX6_sizeOf_54 rfl 1 rfl ?_
      obtain ⟨r55, m55, hc55, h⟩ := fn_bi_s h
      refine pw_callVi (rest := []) C (by decide) (pw_sh_54 _) rfl (ct_X6_size13 l C.2.2.2.2.2.2.2.2 hc55) (cwV 1 C.2.2.2.2.1 gX6_sizeOf_X6_size13 rfl rfl rfl (by decide +kernel) ⟨Nat.le_of_ble_eq_true rfl, Nat.le_of_ble_eq_true rfl⟩) rfl rfl (Nat.le_of_ble_eq_true rfl) dX6_sizeOf_55 ?_
      exact pw_iret C h dX6_sizeOf_58
    · have h := fn_neg c9_4 h
      have n9_4 := pw_neI c9_4 (show (4 : Int32).toInt = 4 by decide)
      by_cases c9_5 : (μ 55 (((13 : Int32) + a1)).toNatClampNeg) = 5
      · have h := fn_pos c9_5 h
        refine pw_tabIn (tgt := 59) C 5 c9_5 dX6_sizeOf_9 (by decide) (by decide) rfl (by decide) ?_
        refine pw_aload_n C dX6_sizeOf_59 rfl 0 rfl ?_
        refine pw_bipush (v := (14 : Int32)) C dX6_sizeOf_60 (by decide) ?_
        obtain ⟨m62, hc62, h⟩ := fn_bv_s h
        refine pw_callVv (rest := []) C (by decide) (pw_sh_54 _) rfl (ct_X6_traces l C.2.2.2.2.2.2.2.2 hc62) (cwV 1 C.2.2.2.2.1 gX6_sizeOf_X6_traces rfl rfl rfl (by decide +kernel) ⟨Nat.le_of_ble_eq_true rfl, Nat.le_of_ble_eq_true rfl⟩) rfl rfl (Nat.le_of_ble_eq_true rfl) dX6_sizeOf_62 ?_
        refine pw_iconst (v := (2 : Int32)) C dX6_sizeOf_65 (by decide) ?_
        refine pw_aload_n C dX6_sizeOf_66 rfl 0 rfl ?_
        refine pw_iload_n C dX6_sizeOf_67 rfl 1 rfl ?_
        obtain ⟨r68, m68, hc68, h⟩ := fn_bi_s h
        refine pw_callVi (rest := [.int (2 : Int32)]) C (by decide) (pw_sh_54 _) rfl (ct_X6_size13 l C.2.2.2.2.2.2.2.2 hc68) (cwV 1 C.2.2.2.2.1 gX6_sizeOf_X6_size13 rfl rfl rfl (by decide +kernel) ⟨Nat.le_of_ble_eq_true rfl, Nat.le_of_ble_eq_true rfl⟩) rfl rfl (Nat.le_of_ble_eq_true rfl) dX6_sizeOf_68 ?_
        refine pw_imul C dX6_sizeOf_71 ?_
        exact pw_iret C h dX6_sizeOf_72
      · have h := fn_neg c9_5 h
        have n9_5 := pw_neI c9_5 (show (5 : Int32).toInt = 5 by decide)
        by_cases c9_3 : (μ 55 (((13 : Int32) + a1)).toNatClampNeg) = 3
        · refine pw_tabIn (tgt := 73) C 3 c9_3 dX6_sizeOf_9 (by decide) (by decide) rfl (by decide) ?_
          refine pw_aload_n C dX6_sizeOf_73 rfl 0 rfl ?_
          refine pw_iload_n C dX6_sizeOf_74 rfl 1 rfl ?_
          obtain ⟨r75, m75, hc75, h⟩ := fn_bi_s h
          refine pw_callVi (rest := []) C (by decide) (pw_sh_54 _) rfl (ct_X6_size11 l C.2.2.2.2.2.2.2.2 hc75) (cwV 1 C.2.2.2.2.1 gX6_sizeOf_X6_size11 rfl rfl rfl (by decide +kernel) ⟨Nat.le_of_ble_eq_true rfl, Nat.le_of_ble_eq_true rfl⟩) rfl rfl (Nat.le_of_ble_eq_true rfl) dX6_sizeOf_75 ?_
          exact pw_iret C h dX6_sizeOf_78
        · have n9_3 := pw_neI c9_3 (show (3 : Int32).toInt = 3 by decide)
          refine pw_tabOut (tgt := 73) C dX6_sizeOf_9 (by omega) (by decide) ?_
          refine pw_aload_n C dX6_sizeOf_73 rfl 0 rfl ?_
          refine pw_iload_n C dX6_sizeOf_74 rfl 1 rfl ?_
          obtain ⟨r75, m75, hc75, h⟩ := fn_bi_s h
          refine pw_callVi (rest := []) C (by decide) (pw_sh_54 _) rfl (ct_X6_size11 l C.2.2.2.2.2.2.2.2 hc75) (cwV 1 C.2.2.2.2.1 gX6_sizeOf_X6_size11 rfl rfl rfl (by decide +kernel) ⟨Nat.le_of_ble_eq_true rfl, Nat.le_of_ble_eq_true rfl⟩) rfl rfl (Nat.le_of_ble_eq_true rfl) dX6_sizeOf_75 ?_
          exact pw_iret C h dX6_sizeOf_78
set_option maxHeartbeats 4000000 in
set_option maxRecDepth 100000 in
theorem ct_X6_mark23 (l : Launch) {G : pw_G} (hG : pw_Ok G) {a1 : Int32}  {μ μ' : pw_Mem} {r : Int32} (h : fn_X6_mark23 a1 μ = some (r, μ')) : Met l yX6_mark23 wsX6_mark23 ({ frames := 6, cells := 0, slots := 0, locals := 127 }) (va_Pc [.ref (gad G 54), .int a1] (pw_Pre G μ)) (va_Qi (fun (r1 : Int32) (u : pw_Mem) => r1 = r ∧ u = μ') (pw_B G) (gA G)) 0 0 (gA G) := by
  refine pw_met (lv := [(0, .ref (gad G 54)), (1, .int a1)]) (own := RX6) (cc := cX6_mark23) (maxL := 3) (ret := some .int) hG rfl (by decide) rfl rfl (Nat.le_of_ble_eq_true rfl) ?_
  intro p e s m below meth c C
  unfold fn_X6_mark23 at h
  refine pw_aload_n C dX6_mark23_0 rfl 0 rfl ?_
  refine pw_bipush (v := (23 : Int32)) C dX6_mark23_1 (by decide) ?_
  obtain ⟨m3, hc3, h⟩ := fn_bv_s h
  refine pw_callVv (rest := []) C (by decide) (pw_sh_54 _) rfl (ct_X6_traces l C.2.2.2.2.2.2.2.2 hc3) (cwV 1 C.2.2.2.2.1 gX6_mark23_X6_traces rfl rfl rfl (by decide +kernel) ⟨Nat.le_of_ble_eq_true rfl, Nat.le_of_ble_eq_true rfl⟩) rfl rfl (Nat.le_of_ble_eq_true rfl) dX6_mark23_3 ?_
  refine pw_aload_n C dX6_mark23_6 rfl 0 rfl ?_
  refine pw_iload_n C dX6_mark23_7 rfl 1 rfl ?_
  obtain ⟨r8, m8, hc8, h⟩ := fn_bi_s h
  refine pw_callVi (rest := []) C (by decide) (pw_sh_54 _) rfl (ct_X6_mark20 l C.2.2.2.2.2.2.2.2 hc8) (cwV 1 C.2.2.2.2.1 gX6_mark23_X6_mark20 rfl rfl rfl (by decide +kernel) ⟨Nat.le_of_ble_eq_true rfl, Nat.le_of_ble_eq_true rfl⟩) rfl rfl (Nat.le_of_ble_eq_true rfl) dX6_mark23_8 ?_
  refine pw_istore_n (lv' := [(2, .int r8), (0, .ref (gad G 54)), (1, .int a1)]) C dX6_mark23_11 rfl (by decide) rfl ?_
  refine pw_iload_n C dX6_mark23_12 rfl 0 rfl ?_
  refine pw_aload_n C dX6_mark23_13 rfl 1 rfl ?_
  refine pw_iload_n C dX6_mark23_14 rfl 2 rfl ?_
  obtain ⟨r15, m15, hc15, h⟩ := fn_bi_s h
  refine pw_callVi (rest := [.int r8]) C (by decide) (pw_sh_54 _) rfl (ct_X6_sizeOf l C.2.2.2.2.2.2.2.2 hc15) (cwV 1 C.2.2.2.2.1 gX6_mark23_X6_sizeOf rfl rfl rfl (by decide +kernel) ⟨Nat.le_of_ble_eq_true rfl, Nat.le_of_ble_eq_true rfl⟩) rfl rfl (Nat.le_of_ble_eq_true rfl) dX6_mark23_15 ?_
  refine pw_isub C dX6_mark23_18 ?_
  exact pw_iret C h dX6_mark23_19
set_option maxHeartbeats 4000000 in
set_option maxRecDepth 100000 in
theorem ct_X6_ask (l : Launch) {G : pw_G} (hG : pw_Ok G) {a1 : Int32} {a2 : Int32}  {μ μ' : pw_Mem} {r : Int32} (h : fn_X6_ask a1 a2 μ = some (r, μ')) : Met l yX6_ask wsX6_ask ({ frames := 7, cells := 0, slots := 0, locals := 149 }) (va_Pc [.ref (gad G 54), .int a1, .int a2] (pw_Pre G μ)) (va_Qi (fun (r1 : Int32) (u : pw_Mem) => r1 = r ∧ u = μ') (pw_B G) (gA G)) 0 0 (gA G) := by
  refine pw_met (lv := [(0, .ref (gad G 54)), (1, .int a1), (2, .int a2)]) (own := RX6) (cc := cX6_ask) (maxL := 3) (ret := some .int) hG rfl (by decide) rfl rfl (Nat.le_of_ble_eq_true rfl) ?_
  intro p e s m below meth c C
  have iX6 : ∀ w ∈ u_ws RX6 TX6 16, w ∈ wsX6_ask := fun _ h => List.mem_cons_of_mem _ (List.mem_append_right _ (h))
  have k1 := C.2.2.2.2.1 (.constant RX6 51 (-1000001)) (List.mem_cons_of_mem _ (List.mem_append_left _ (List.mem_append_left _ (List.mem_of_getElem? (i := 0) rfl))))
  have k2 := C.2.2.2.2.1 (.fieldLink RX6 211 "PulpitRoadsModel" "traced" "I") (List.mem_cons_of_mem _ (List.mem_append_left _ (List.mem_append_left _ (List.mem_of_getElem? (i := 1) rfl))))
  have k3 := C.2.2.2.2.1 (.fieldLink RX6 7 "PulpitRoadsModel" "w" "[I") (List.mem_cons_of_mem _ (List.mem_append_left _ (List.mem_append_left _ (List.mem_of_getElem? (i := 2) rfl))))
  unfold fn_X6_ask at h
  refine pw_aload_n C dX6_ask_0 rfl 0 rfl ?_
  refine pw_iload_n C dX6_ask_1 rfl 1 rfl ?_
  obtain ⟨r2, m2, hc2, h⟩ := fn_bi_s h
  refine pw_callVi (rest := []) C (by decide) (pw_sh_54 _) rfl (ct_X6_isPulpit l C.2.2.2.2.2.2.2.2 hc2) (cwV 1 C.2.2.2.2.1 gX6_ask_X6_isPulpit rfl rfl rfl (by decide +kernel) ⟨Nat.le_of_ble_eq_true rfl, Nat.le_of_ble_eq_true rfl⟩) rfl rfl (Nat.le_of_ble_eq_true rfl) dX6_ask_2 ?_
  refine pw_if_eq (tgt := 18) C dX6_ask_5 (by decide) (fun c5 => ?_) (fun c5 => ?_)
  · have h := fn_pos c5 h
    refine pw_ldc C k1 dX6_ask_18 ?_
    exact pw_iret C h dX6_ask_20
  · have h := fn_neg c5 h
    refine pw_iload_n C dX6_ask_8 rfl 2 rfl ?_
    refine pw_i2l C dX6_ask_9 ?_
    refine pw_lconst (v := (0 : Int64)) C dX6_ask_10 (by decide) ?_
    refine pw_lconst (v := (1 : Int64)) C dX6_ask_11 (by decide) ?_
    obtain ⟨r12, m12, hc12, h⟩ := fn_bi_s h
    refine pw_callSi (rest := []) C (ct_X6_in l C.2.2.2.2.2.2.2.2 hc12) (va_cwS 3 C.2.2.2.2.1 gX6_ask_X6_in rfl rfl rfl (by decide +kernel) ⟨Nat.le_of_ble_eq_true rfl, Nat.le_of_ble_eq_true rfl⟩) rfl rfl (Nat.le_of_ble_eq_true rfl) dX6_ask_12 ?_
    refine pw_if_ne (tgt := 21) C dX6_ask_15 (by decide) (fun c15 => ?_) (fun c15 => ?_)
    · have h := fn_pos c15 h
      refine pw_aload_n C dX6_ask_21 rfl 0 rfl ?_
      refine pw_iconst (v := (0 : Int32)) C dX6_ask_22 (by decide) ?_
      refine pw_put (host := "PulpitRoads") (ty := .int) C iX6 tyX6 tyX6_ok nmX6 (by decide) (pw_sh_54 _) rfl 15 (by decide) (pw_sh_54 _) k2 rfl (by decide +kernel) (fn_int _) (Nat.le_of_ble_eq_true rfl) dX6_ask_23 ?_
      refine pw_iload_n C dX6_ask_26 rfl 2 rfl ?_
      refine pw_if_ne (tgt := 38) C dX6_ask_27 (by decide) (fun c27 => ?_) (fun c27 => ?_)
      · have h := fn_pos c27 h
        refine pw_aload_n C dX6_ask_38 rfl 0 rfl ?_
        refine pw_get (v := .ref (gad G 55)) C iX6 (by decide) (pw_sh_54 _) rfl 0 (by decide) k3 rfl dX6_ask_39 ?_
        refine pw_bipush (v := (13 : Int32)) C dX6_ask_42 (by decide) ?_
        refine pw_iload_n C dX6_ask_44 rfl 1 rfl ?_
        refine pw_iadd C dX6_ask_45 ?_
        obtain ⟨hi46, h⟩ := fn_ix_s h
        refine pw_iald C (by decide) (pw_sh_55 _) hi46 dX6_ask_46 ?_
        refine pw_iconst (v := (4 : Int32)) C dX6_ask_47 (by decide) ?_
        refine pw_icmp_lt (tgt := 59) C dX6_ask_48 (by decide) (fun c48 => ?_) (fun c48 => ?_)
        · have h := fn_pos c48 h
          refine pw_aload_n C dX6_ask_59 rfl 0 rfl ?_
          refine pw_iload_n C dX6_ask_60 rfl 1 rfl ?_
          obtain ⟨r61, m61, hc61, h⟩ := fn_bi_s h
          refine pw_callVi (rest := []) C (by decide) (pw_sh_54 _) rfl (ct_X6_markOf l C.2.2.2.2.2.2.2.2 hc61) (cwV 1 C.2.2.2.2.1 gX6_ask_X6_markOf rfl rfl rfl (by decide +kernel) ⟨Nat.le_of_ble_eq_true rfl, Nat.le_of_ble_eq_true rfl⟩) rfl rfl (Nat.le_of_ble_eq_true rfl) dX6_ask_61 ?_
          exact pw_iret C h dX6_ask_64
        · have h := fn_neg c48 h
          refine pw_aload_n C dX6_ask_51 rfl 0 rfl ?_
          refine pw_iload_n C dX6_ask_52 rfl 1 rfl ?_
          obtain ⟨r53, m53, hc53, h⟩ := fn_bi_s h
          refine pw_callVi (rest := []) C (by decide) (pw_sh_54 _) rfl (ct_X6_mark23 l C.2.2.2.2.2.2.2.2 hc53) (cwV 1 C.2.2.2.2.1 gX6_ask_X6_mark23 rfl rfl rfl (by decide +kernel) ⟨Nat.le_of_ble_eq_true rfl, Nat.le_of_ble_eq_true rfl⟩) rfl rfl (Nat.le_of_ble_eq_true rfl) dX6_ask_53 ?_
          refine pw_goto (tgt := 64) C dX6_ask_56 (by decide) ?_
          exact pw_iret C h dX6_ask_64
      · have h := fn_neg c27 h
        refine pw_aload_n C dX6_ask_30 rfl 0 rfl ?_
        refine pw_iload_n C dX6_ask_31 rfl 1 rfl ?_
        obtain ⟨r32, m32, hc32, h⟩ := fn_bi_s h
        refine pw_callVi (rest := []) C (by decide) (pw_sh_54 _) rfl (ct_X6_sizeOf l C.2.2.2.2.2.2.2.2 hc32) (cwV 1 C.2.2.2.2.1 gX6_ask_X6_sizeOf rfl rfl rfl (by decide +kernel) ⟨Nat.le_of_ble_eq_true rfl, Nat.le_of_ble_eq_true rfl⟩) rfl rfl (Nat.le_of_ble_eq_true rfl) dX6_ask_32 ?_
        refine pw_goto (tgt := 64) C dX6_ask_35 (by decide) ?_
        exact pw_iret C h dX6_ask_64
    · have h := fn_neg c15 h
      refine pw_ldc C k1 dX6_ask_18 ?_
      exact pw_iret C h dX6_ask_20
set_option maxHeartbeats 4000000 in
set_option maxRecDepth 100000 in
theorem ct_X6_trace (l : Launch) {G : pw_G} (hG : pw_Ok G) {a1 : Int32}  {μ μ' : pw_Mem} {r : Int32} (h : fn_X6_trace a1 μ = some (r, μ')) : Met l yX6_trace wsX6_trace ({ frames := 1, cells := 0, slots := 0, locals := 25 }) (va_Pc [.ref (gad G 54), .int a1] (pw_Pre G μ)) (va_Qi (fun (r1 : Int32) (u : pw_Mem) => r1 = r ∧ u = μ') (pw_B G) (gA G)) 0 0 (gA G) := by
  refine pw_met (lv := [(0, .ref (gad G 54)), (1, .int a1)]) (own := RX6) (cc := cX6_trace) (maxL := 2) (ret := some .int) hG rfl (by decide) rfl rfl (Nat.le_of_ble_eq_true rfl) ?_
  intro p e s m below meth c C
  have iX6 : ∀ w ∈ u_ws RX6 TX6 16, w ∈ wsX6_trace := fun _ h => List.mem_cons_of_mem _ (List.mem_append_right _ (h))
  have k1 := C.2.2.2.2.1 (.fieldLink RX6 211 "PulpitRoadsModel" "traced" "I") (List.mem_cons_of_mem _ (List.mem_append_left _ (List.mem_of_getElem? (i := 0) rfl)))
  have k2 := C.2.2.2.2.1 (.fieldLink RX6 31 "PulpitRoadsModel" "trace" "[I") (List.mem_cons_of_mem _ (List.mem_append_left _ (List.mem_of_getElem? (i := 1) rfl)))
  have k3 := C.2.2.2.2.1 (.constant RX6 176 (-1000000)) (List.mem_cons_of_mem _ (List.mem_append_left _ (List.mem_of_getElem? (i := 2) rfl)))
  unfold fn_X6_trace at h
  refine pw_iload_n C dX6_trace_0 rfl 1 rfl ?_
  refine pw_i2l C dX6_trace_1 ?_
  refine pw_lconst (v := (0 : Int64)) C dX6_trace_2 (by decide) ?_
  refine pw_aload_n C dX6_trace_3 rfl 0 rfl ?_
  refine pw_get (v := .int (μ 54 15)) C iX6 (by decide) (pw_sh_54 _) rfl 15 (by decide) k1 rfl dX6_trace_4 ?_
  refine pw_iconst (v := (1 : Int32)) C dX6_trace_7 (by decide) ?_
  refine pw_isub C dX6_trace_8 ?_
  refine pw_i2l C dX6_trace_9 ?_
  obtain ⟨r10, m10, hc10, h⟩ := fn_bi_s h
  refine pw_callSi (rest := []) C (ct_X6_in l C.2.2.2.2.2.2.2.2 hc10) (va_cwS 3 C.2.2.2.2.1 gX6_trace_X6_in rfl rfl rfl (by decide +kernel) ⟨Nat.le_of_ble_eq_true rfl, Nat.le_of_ble_eq_true rfl⟩) rfl rfl (Nat.le_of_ble_eq_true rfl) dX6_trace_10 ?_
  refine pw_if_eq (tgt := 25) C dX6_trace_13 (by decide) (fun c13 => ?_) (fun c13 => ?_)
  · have h := fn_pos c13 h
    refine pw_ldc C k3 dX6_trace_25 ?_
    exact pw_iret C h dX6_trace_27
  · have h := fn_neg c13 h
    refine pw_aload_n C dX6_trace_16 rfl 0 rfl ?_
    refine pw_get (v := .ref (gad G 62)) C iX6 (by decide) (pw_sh_54 _) rfl 14 (by decide) k2 rfl dX6_trace_17 ?_
    refine pw_iload_n C dX6_trace_20 rfl 1 rfl ?_
    obtain ⟨hi21, h⟩ := fn_ix_s h
    refine pw_iald C (by decide) (pw_sh_62 _) hi21 dX6_trace_21 ?_
    refine pw_goto (tgt := 27) C dX6_trace_22 (by decide) ?_
    exact pw_iret C h dX6_trace_27
set_option maxHeartbeats 4000000 in
set_option maxRecDepth 100000 in
theorem ct_X6_rowsThere (l : Launch) {G : pw_G} (hG : pw_Ok G)   {μ μ' : pw_Mem} {r : Int32} (h : fn_X6_rowsThere μ = some (r, μ')) : Met l yX6_rowsThere wsX6_rowsThere ({ frames := 0, cells := 0, slots := 0, locals := 0 }) (va_Pc [.ref (gad G 54)] (pw_Pre G μ)) (va_Qi (fun (r1 : Int32) (u : pw_Mem) => r1 = r ∧ u = μ') (pw_B G) (gA G)) 0 0 (gA G) := by
  refine pw_met (lv := [(0, .ref (gad G 54))]) (own := RX6) (cc := cX6_rowsThere) (maxL := 3) (ret := some .int) hG rfl (by decide) rfl rfl (Nat.le_of_ble_eq_true rfl) ?_
  intro p e s m below meth c C
  have iX6 : ∀ w ∈ u_ws RX6 TX6 16, w ∈ wsX6_rowsThere := fun _ h => List.mem_cons_of_mem _ (List.mem_append_right _ (h))
  have k1 := C.2.2.2.2.1 (.fieldLink RX6 16 "PulpitRoadsModel" "many" "[I") (List.mem_cons_of_mem _ (List.mem_append_left _ (List.mem_of_getElem? (i := 0) rfl)))
  unfold fn_X6_rowsThere at h
  refine pw_iconst (v := (0 : Int32)) C dX6_rowsThere_0 (by decide) ?_
  refine pw_istore_n (lv' := [(1, .int (0 : Int32)), (0, .ref (gad G 54))]) C dX6_rowsThere_1 rfl (by decide) rfl ?_
  refine pw_iconst (v := (0 : Int32)) C dX6_rowsThere_2 (by decide) ?_
  refine pw_istore_n (lv' := [(2, .int (0 : Int32)), (1, .int (0 : Int32)), (0, .ref (gad G 54))]) C dX6_rowsThere_3 rfl (by decide) rfl ?_
  have L4 : ∀ (k : Int32 → pw_Mem → Option (Int32 × pw_Mem)) (hk : ∀ (v1 : Int32) (m1 : pw_Mem), k v1 m1 = some (r, μ') → pw_Go p l e ({ frames := 0, cells := 0, slots := 0, locals := 0 }) s m (([.ref (gad G 54)] : List Value).toArray) below meth c (MQ below (va_Qi (fun (r1 : Int32) (u : pw_Mem) => r1 = r ∧ u = μ') (pw_B G) (gA G)) (([.ref (gad G 54)] : List Value).toArray) s 0 0 (gA G)) G 3 33 [(1, .int v1)] [] m1) (n : Nat) (v1 : Int32) (v2 : Int32) (m1 : pw_Mem), fl_X6_rowsThere_4 k  n v1 v2 m1 = some (r, μ') → pw_Go p l e ({ frames := 0, cells := 0, slots := 0, locals := 0 }) s m (([.ref (gad G 54)] : List Value).toArray) below meth c (MQ below (va_Qi (fun (r1 : Int32) (u : pw_Mem) => r1 = r ∧ u = μ') (pw_B G) (gA G)) (([.ref (gad G 54)] : List Value).toArray) s 0 0 (gA G)) G 3 4 [(0, .ref (gad G 54)), (1, .int v1), (2, .int v2)] [] m1 := by
    intro k hk n
    induction n with
    | zero => intro v1 v2 m1 h; exact nomatch (show (none : Option (Int32 × pw_Mem)) = some _ from h)
    | succ n ih =>
      intro v1 v2 m1 h
      rw [fl_X6_rowsThere_4] at h
      refine pw_iload_n C dX6_rowsThere_4 rfl 2 rfl ?_
      refine pw_bipush (v := (8 : Int32)) C dX6_rowsThere_5 (by decide) ?_
      refine pw_icmp_ge (tgt := 33) C dX6_rowsThere_7 (by decide) (fun c7 => ?_) (fun c7 => ?_)
      · have h := fn_pos c7 h
        refine pw_sub [1] rfl ?_
        exact hk _ _ h
      · have h := fn_neg c7 h
        refine pw_iload_n C dX6_rowsThere_10 rfl 1 rfl ?_
        refine pw_aload_n C dX6_rowsThere_11 rfl 0 rfl ?_
        refine pw_get (v := .ref (gad G 57)) C iX6 (by decide) (pw_sh_54 _) rfl 6 (by decide) k1 rfl dX6_rowsThere_12 ?_
        refine pw_iload_n C dX6_rowsThere_15 rfl 2 rfl ?_
        obtain ⟨hi16, h⟩ := fn_ix_s h
        refine pw_iald C (by decide) (pw_sh_57 _) hi16 dX6_rowsThere_16 ?_
        refine fn_jn1_s (fun x25_0 m25 => pw_Go p l e ({ frames := 0, cells := 0, slots := 0, locals := 0 }) s m (([.ref (gad G 54)] : List Value).toArray) below meth c (MQ below (va_Qi (fun (r1 : Int32) (u : pw_Mem) => r1 = r ∧ u = μ') (pw_B G) (gA G)) (([.ref (gad G 54)] : List Value).toArray) s 0 0 (gA G)) G 3 25 [(0, .ref (gad G 54)), (2, .int v2)] [.int x25_0, .int v1] m25) h (fun x25_0 m25 h => ?_) (fun k25 hk25 h => ?_)
        · refine pw_iadd C dX6_rowsThere_25 ?_
          refine pw_istore_n (lv' := [(1, .int (v1 + x25_0)), (0, .ref (gad G 54)), (2, .int v2)]) C dX6_rowsThere_26 rfl (by decide) rfl ?_
          refine pw_iinc (v := (v2 + 1)) (lv' := [(2, .int (v2 + 1)), (1, .int (v1 + x25_0)), (0, .ref (gad G 54))]) C dX6_rowsThere_27 (q := 2) rfl rfl (by decide) rfl ?_
          refine pw_goto (tgt := 4) C dX6_rowsThere_30 (by decide) ?_
          refine pw_sub [2, 1, 0] rfl ?_
          exact ih _ _ _ h
        · refine pw_if_lt (tgt := 24) C dX6_rowsThere_17 (by decide) (fun c17 => ?_) (fun c17 => ?_)
          · have h := fn_pos c17 h
            refine pw_iconst (v := (0 : Int32)) C dX6_rowsThere_24 (by decide) ?_
            refine pw_sub [0, 2] rfl ?_
            exact hk25 _ _ h
          · have h := fn_neg c17 h
            refine pw_iconst (v := (1 : Int32)) C dX6_rowsThere_20 (by decide) ?_
            refine pw_goto (tgt := 25) C dX6_rowsThere_21 (by decide) ?_
            refine pw_sub [0, 2] rfl ?_
            exact hk25 _ _ h
  refine pw_sub [2, 1, 0] rfl ?_
  refine L4 _ (fun y4_1 m33 h => ?_) _ _ _ _ h
  refine pw_iload_n C dX6_rowsThere_33 rfl 0 rfl ?_
  exact pw_iret C h dX6_rowsThere_34
set_option maxHeartbeats 4000000 in
set_option maxRecDepth 100000 in
theorem ct_X6_count (l : Launch) {G : pw_G} (hG : pw_Ok G) {a1 : Int32}  {μ μ' : pw_Mem} {r : Int32} (h : fn_X6_count a1 μ = some (r, μ')) : Met l yX6_count wsX6_count ({ frames := 2, cells := 0, slots := 0, locals := 45 }) (va_Pc [.ref (gad G 54), .int a1] (pw_Pre G μ)) (va_Qi (fun (r1 : Int32) (u : pw_Mem) => r1 = r ∧ u = μ') (pw_B G) (gA G)) 0 0 (gA G) := by
  refine pw_met (lv := [(0, .ref (gad G 54)), (1, .int a1)]) (own := RX6) (cc := cX6_count) (maxL := 2) (ret := some .int) hG rfl (by decide) rfl rfl (Nat.le_of_ble_eq_true rfl) ?_
  intro p e s m below meth c C
  have iX6 : ∀ w ∈ u_ws RX6 TX6 16, w ∈ wsX6_count := fun _ h => List.mem_cons_of_mem _ (List.mem_append_right _ (h))
  have k1 := C.2.2.2.2.1 (.fieldLink RX6 7 "PulpitRoadsModel" "w" "[I") (List.mem_cons_of_mem _ (List.mem_append_left _ (List.mem_append_left _ (List.mem_of_getElem? (i := 0) rfl))))
  have k2 := C.2.2.2.2.1 (.fieldLink RX6 117 "PulpitRoadsModel" "undoes" "I") (List.mem_cons_of_mem _ (List.mem_append_left _ (List.mem_append_left _ (List.mem_of_getElem? (i := 1) rfl))))
  have k3 := C.2.2.2.2.1 (.fieldLink RX6 62 "PulpitRoadsModel" "taped" "I") (List.mem_cons_of_mem _ (List.mem_append_left _ (List.mem_append_left _ (List.mem_of_getElem? (i := 2) rfl))))
  have k4 := C.2.2.2.2.1 (.constant RX6 51 (-1000001)) (List.mem_cons_of_mem _ (List.mem_append_left _ (List.mem_append_left _ (List.mem_of_getElem? (i := 3) rfl))))
  unfold fn_X6_count at h
  refine pw_iload_n C dX6_count_0 rfl 1 rfl ?_
  by_cases c1_0 : a1 = 0
  · have h := fn_pos c1_0 h
    refine pw_tabIn (tgt := 56) C 0 c1_0 dX6_count_1 (by decide) (by decide) rfl (by decide) ?_
    refine pw_aload_n C dX6_count_56 rfl 0 rfl ?_
    obtain ⟨r57, m57, hc57, h⟩ := fn_bi_s h
    refine pw_callVi (rest := []) C (by decide) (pw_sh_54 _) rfl (ct_X6_rowsThere l C.2.2.2.2.2.2.2.2 hc57) (cwV 0 C.2.2.2.2.1 gX6_count_X6_rowsThere rfl rfl rfl (by decide +kernel) ⟨Nat.le_of_ble_eq_true rfl, Nat.le_of_ble_eq_true rfl⟩) rfl rfl (Nat.le_of_ble_eq_true rfl) dX6_count_57 ?_
    exact pw_iret C h dX6_count_60
  · have h := fn_neg c1_0 h
    have n1_0 := pw_neI c1_0 (show (0 : Int32).toInt = 0 by decide)
    by_cases c1_1 : a1 = 1
    · have h := fn_pos c1_1 h
      refine pw_tabIn (tgt := 61) C 1 c1_1 dX6_count_1 (by decide) (by decide) rfl (by decide) ?_
      refine pw_aload_n C dX6_count_61 rfl 0 rfl ?_
      refine pw_get (v := .ref (gad G 55)) C iX6 (by decide) (pw_sh_54 _) rfl 0 (by decide) k1 rfl dX6_count_62 ?_
      refine pw_iconst (v := (0 : Int32)) C dX6_count_65 (by decide) ?_
      obtain ⟨hi66, h⟩ := fn_ix_s h
      refine pw_iald C (by decide) (pw_sh_55 _) hi66 dX6_count_66 ?_
      exact pw_iret C h dX6_count_67
    · have h := fn_neg c1_1 h
      have n1_1 := pw_neI c1_1 (show (1 : Int32).toInt = 1 by decide)
      by_cases c1_2 : a1 = 2
      · have h := fn_pos c1_2 h
        refine pw_tabIn (tgt := 68) C 2 c1_2 dX6_count_1 (by decide) (by decide) rfl (by decide) ?_
        refine pw_aload_n C dX6_count_68 rfl 0 rfl ?_
        refine pw_get (v := .ref (gad G 55)) C iX6 (by decide) (pw_sh_54 _) rfl 0 (by decide) k1 rfl dX6_count_69 ?_
        refine pw_iconst (v := (1 : Int32)) C dX6_count_72 (by decide) ?_
        obtain ⟨hi73, h⟩ := fn_ix_s h
        refine pw_iald C (by decide) (pw_sh_55 _) hi73 dX6_count_73 ?_
        exact pw_iret C h dX6_count_74
      · have h := fn_neg c1_2 h
        have n1_2 := pw_neI c1_2 (show (2 : Int32).toInt = 2 by decide)
        by_cases c1_3 : a1 = 3
        · have h := fn_pos c1_3 h
          refine pw_tabIn (tgt := 75) C 3 c1_3 dX6_count_1 (by decide) (by decide) rfl (by decide) ?_
          refine pw_aload_n C dX6_count_75 rfl 0 rfl ?_
          refine pw_get (v := .ref (gad G 55)) C iX6 (by decide) (pw_sh_54 _) rfl 0 (by decide) k1 rfl dX6_count_76 ?_
          refine pw_bipush (v := (18 : Int32)) C dX6_count_79 (by decide) ?_
          obtain ⟨hi81, h⟩ := fn_ix_s h
          refine pw_iald C (by decide) (pw_sh_55 _) hi81 dX6_count_81 ?_
          exact pw_iret C h dX6_count_82
        · have h := fn_neg c1_3 h
          have n1_3 := pw_neI c1_3 (show (3 : Int32).toInt = 3 by decide)
          by_cases c1_4 : a1 = 4
          · have h := fn_pos c1_4 h
            refine pw_tabIn (tgt := 83) C 4 c1_4 dX6_count_1 (by decide) (by decide) rfl (by decide) ?_
            refine pw_aload_n C dX6_count_83 rfl 0 rfl ?_
            refine pw_get (v := .ref (gad G 55)) C iX6 (by decide) (pw_sh_54 _) rfl 0 (by decide) k1 rfl dX6_count_84 ?_
            refine pw_iconst (v := (2 : Int32)) C dX6_count_87 (by decide) ?_
            obtain ⟨hi88, h⟩ := fn_ix_s h
            refine pw_iald C (by decide) (pw_sh_55 _) hi88 dX6_count_88 ?_
            exact pw_iret C h dX6_count_89
          · have h := fn_neg c1_4 h
            have n1_4 := pw_neI c1_4 (show (4 : Int32).toInt = 4 by decide)
            by_cases c1_5 : a1 = 5
            · have h := fn_pos c1_5 h
              refine pw_tabIn (tgt := 90) C 5 c1_5 dX6_count_1 (by decide) (by decide) rfl (by decide) ?_
              refine pw_aload_n C dX6_count_90 rfl 0 rfl ?_
              refine pw_get (v := .ref (gad G 55)) C iX6 (by decide) (pw_sh_54 _) rfl 0 (by decide) k1 rfl dX6_count_91 ?_
              refine pw_iconst (v := (3 : Int32)) C dX6_count_94 (by decide) ?_
              obtain ⟨hi95, h⟩ := fn_ix_s h
              refine pw_iald C (by decide) (pw_sh_55 _) hi95 dX6_count_95 ?_
              exact pw_iret C h dX6_count_96
            · have h := fn_neg c1_5 h
              have n1_5 := pw_neI c1_5 (show (5 : Int32).toInt = 5 by decide)
              by_cases c1_6 : a1 = 6
              · have h := fn_pos c1_6 h
                refine pw_tabIn (tgt := 97) C 6 c1_6 dX6_count_1 (by decide) (by decide) rfl (by decide) ?_
                refine pw_aload_n C dX6_count_97 rfl 0 rfl ?_
                refine pw_get (v := .int (μ 54 1)) C iX6 (by decide) (pw_sh_54 _) rfl 1 (by decide) k2 rfl dX6_count_98 ?_
                exact pw_iret C h dX6_count_101
              · have h := fn_neg c1_6 h
                have n1_6 := pw_neI c1_6 (show (6 : Int32).toInt = 6 by decide)
                by_cases c1_7 : a1 = 7
                · have h := fn_pos c1_7 h
                  refine pw_tabIn (tgt := 102) C 7 c1_7 dX6_count_1 (by decide) (by decide) rfl (by decide) ?_
                  refine pw_aload_n C dX6_count_102 rfl 0 rfl ?_
                  refine pw_get (v := .int (μ 54 3)) C iX6 (by decide) (pw_sh_54 _) rfl 3 (by decide) k3 rfl dX6_count_103 ?_
                  exact pw_iret C h dX6_count_106
                · have h := fn_neg c1_7 h
                  have n1_7 := pw_neI c1_7 (show (7 : Int32).toInt = 7 by decide)
                  by_cases c1_8 : a1 = 8
                  · have h := fn_pos c1_8 h
                    refine pw_tabIn (tgt := 107) C 8 c1_8 dX6_count_1 (by decide) (by decide) rfl (by decide) ?_
                    refine pw_aload_n C dX6_count_107 rfl 0 rfl ?_
                    refine pw_iconst (v := (0 : Int32)) C dX6_count_108 (by decide) ?_
                    obtain ⟨r109, m109, hc109, h⟩ := fn_bi_s h
                    refine pw_callVi (rest := []) C (by decide) (pw_sh_54 _) rfl (ct_X6_wholeOnes l C.2.2.2.2.2.2.2.2 hc109) (cwV 1 C.2.2.2.2.1 gX6_count_X6_wholeOnes rfl rfl rfl (by decide +kernel) ⟨Nat.le_of_ble_eq_true rfl, Nat.le_of_ble_eq_true rfl⟩) rfl rfl (Nat.le_of_ble_eq_true rfl) dX6_count_109 ?_
                    exact pw_iret C h dX6_count_112
                  · have h := fn_neg c1_8 h
                    have n1_8 := pw_neI c1_8 (show (8 : Int32).toInt = 8 by decide)
                    by_cases c1_9 : a1 = 9
                    · have h := fn_pos c1_9 h
                      refine pw_tabIn (tgt := 113) C 9 c1_9 dX6_count_1 (by decide) (by decide) rfl (by decide) ?_
                      refine pw_aload_n C dX6_count_113 rfl 0 rfl ?_
                      refine pw_iconst (v := (0 : Int32)) C dX6_count_114 (by decide) ?_
                      obtain ⟨r115, m115, hc115, h⟩ := fn_bi_s h
                      refine pw_callVi (rest := []) C (by decide) (pw_sh_54 _) rfl (ct_X6_heardWords l C.2.2.2.2.2.2.2.2 hc115) (cwV 1 C.2.2.2.2.1 gX6_count_X6_heardWords rfl rfl rfl (by decide +kernel) ⟨Nat.le_of_ble_eq_true rfl, Nat.le_of_ble_eq_true rfl⟩) rfl rfl (Nat.le_of_ble_eq_true rfl) dX6_count_115 ?_
                      exact pw_iret C h dX6_count_118
                    · have h := fn_neg c1_9 h
                      have n1_9 := pw_neI c1_9 (show (9 : Int32).toInt = 9 by decide)
                      refine pw_tabOut (tgt := 119) C dX6_count_1 (by omega) (by decide) ?_
                      refine pw_ldc C k4 dX6_count_119 ?_
                      exact pw_iret C h dX6_count_121
set_option maxHeartbeats 4000000 in
set_option maxRecDepth 100000 in
theorem ct_X6_status (l : Launch) {G : pw_G} (hG : pw_Ok G)   {μ μ' : pw_Mem} {r : Int32} (h : fn_X6_status μ = some (r, μ')) : Met l yX6_status wsX6_status ({ frames := 0, cells := 0, slots := 0, locals := 0 }) (va_Pc [.ref (gad G 54)] (pw_Pre G μ)) (va_Qi (fun (r1 : Int32) (u : pw_Mem) => r1 = r ∧ u = μ') (pw_B G) (gA G)) 0 0 (gA G) := by
  refine pw_met (lv := [(0, .ref (gad G 54))]) (own := RX6) (cc := cX6_status) (maxL := 1) (ret := some .int) hG rfl (by decide) rfl rfl (Nat.le_of_ble_eq_true rfl) ?_
  intro p e s m below meth c C
  have iX6 : ∀ w ∈ u_ws RX6 TX6 16, w ∈ wsX6_status := fun _ h => List.mem_cons_of_mem _ (List.mem_append_right _ (h))
  have k1 := C.2.2.2.2.1 (.fieldLink RX6 40 "PulpitRoadsModel" "status" "I") (List.mem_cons_of_mem _ (List.mem_append_left _ (List.mem_of_getElem? (i := 0) rfl)))
  unfold fn_X6_status at h
  refine pw_aload_n C dX6_status_0 rfl 0 rfl ?_
  refine pw_get (v := .int (μ 54 5)) C iX6 (by decide) (pw_sh_54 _) rfl 5 (by decide) k1 rfl dX6_status_1 ?_
  exact pw_iret C h dX6_status_4
