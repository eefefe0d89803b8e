set_option maxHeartbeats 4000000 in
set_option maxRecDepth 100000 in
theorem ct_X0_keep (l : Launch) {G : pw_G} (hG : pw_Ok G) {o1 : Nat} (ho1 : pw_KD o1) {μ μ' : pw_Mem} (h : fn_X0_keep o1 μ = some μ') : Met l yX0_keep wsX0_keep ({ frames := 1, cells := 0, slots := 0, locals := 40 }) (va_Pc [.ref (gad G 20), .ref (gad G o1)] (pw_Pre G μ)) (va_Qv (fun (u : pw_Mem) => u = μ') (pw_B G) (gA G)) 0 0 (gA G) := by
  refine pw_met (lv := [(0, .ref (gad G 20)), (1, .ref (gad G o1))]) (own := RX0) (cc := cX0_keep) (maxL := 4) (ret := none) hG rfl (by decide) rfl rfl (Nat.le_of_ble_eq_true rfl) ?_
  intro p e s m below meth c C
  have iX0 : ∀ w ∈ u_ws RX0 TX0 3, w ∈ wsX0_keep := fun _ h => List.mem_cons_of_mem _ (List.mem_append_left _ (List.mem_append_right _ (h)))
  have iX2 : ∀ w ∈ u_ws RX2 TX2 12, w ∈ wsX0_keep := fun _ h => List.mem_cons_of_mem _ (List.mem_append_right _ (h))
  have k1 := C.2.2.2.2.1 (.fieldLink RX0 15 "PulpitRoads$Acts" "end" "I") (List.mem_cons_of_mem _ (List.mem_append_left _ (List.mem_append_left _ (List.mem_of_getElem? (i := 0) rfl))))
  have k2 := C.2.2.2.2.1 (.fieldLink RX0 11 "PulpitRoads$Acts" "ring" "[I") (List.mem_cons_of_mem _ (List.mem_append_left _ (List.mem_append_left _ (List.mem_of_getElem? (i := 1) rfl))))
  have k3 := C.2.2.2.2.1 (.fieldLink RX0 33 "PulpitRoads$Acts" "kept" "I") (List.mem_cons_of_mem _ (List.mem_append_left _ (List.mem_append_left _ (List.mem_of_getElem? (i := 2) rfl))))
  have k4 := C.2.2.2.2.1 (.methodLink RX0 36 Lib.Math.min.name) (List.mem_cons_of_mem _ (List.mem_append_left _ (List.mem_append_left _ (List.mem_of_getElem? (i := 3) rfl))))
  have k5 := C.2.2.2.2.1 (.static Lib.Math.min.name) (List.mem_cons_of_mem _ (List.mem_append_left _ (List.mem_append_left _ (List.mem_of_getElem? (i := 4) rfl))))
  have k6 := C.2.2.2.2.1 (.initialized "java/lang/Math") (List.mem_cons_of_mem _ (List.mem_append_left _ (List.mem_append_left _ (List.mem_of_getElem? (i := 5) rfl))))
  have k7 := C.2.2.2.2.1 (.code Lib.Math.min.name Lib.Math.min.code 2 (some .int)) (List.mem_cons_of_mem _ (List.mem_append_left _ (List.mem_append_left _ (List.mem_of_getElem? (i := 6) rfl))))
  unfold fn_X0_keep at h
  refine pw_aload_n C dX0_keep_0 rfl 0 rfl ?_
  refine pw_get (v := .int (μ 20 2)) C iX0 (by decide) (pw_sh_20 _) rfl 2 (by decide) k1 rfl dX0_keep_1 ?_
  refine pw_bipush (v := (20 : Int32)) C dX0_keep_4 (by decide) ?_
  refine pw_imul C dX0_keep_6 ?_
  refine pw_istore_n (lv' := [(2, .int ((μ 20 2) * (20 : Int32))), (0, .ref (gad G 20)), (1, .ref (gad G o1))]) C dX0_keep_7 rfl (by decide) rfl ?_
  refine pw_aload_n C dX0_keep_8 rfl 1 rfl ?_
  refine pw_get (v := .ref (gad G 21)) C iX0 (by decide) (pw_sh_20 _) rfl 0 (by decide) k2 rfl dX0_keep_9 ?_
  refine pw_iload_n C dX0_keep_12 rfl 0 rfl ?_
  refine pw_iinc (v := (((μ 20 2) * (20 : Int32)) + 1)) (lv' := [(2, .int (((μ 20 2) * (20 : Int32)) + 1)), (0, .ref (gad G 20)), (1, .ref (gad G o1))]) C dX0_keep_13 (q := 0) rfl rfl (by decide) rfl ?_
  refine pw_aload_n C dX0_keep_16 rfl 2 rfl ?_
  refine pw_getN (v := .int (μ o1 3)) C iX2 (pw_ltD ho1) (pw_shD ho1 _) rfl 3 (by decide) 8 rfl rfl dX0_keep_17 ?_
  obtain ⟨hi20, h⟩ := fn_ix_s h
  refine pw_iast C (by decide) pw_sh_21 hi20 dX0_keep_20 ?_
  refine pw_iconst (v := (0 : Int32)) C dX0_keep_21 (by decide) ?_
  refine pw_istore_n (lv' := [(3, .int (0 : Int32)), (2, .int (((μ 20 2) * (20 : Int32)) + 1)), (0, .ref (gad G 20)), (1, .ref (gad G o1))]) C dX0_keep_22 rfl (by decide) rfl ?_
  have L23 : ∀ (k : Int32 → pw_Mem → Option (pw_Mem)) (hk : ∀ (v2 : Int32) (m1 : pw_Mem), k v2 m1 = some μ' → pw_Go p l e ({ frames := 1, cells := 0, slots := 0, locals := 40 }) s m (([.ref (gad G 20), .ref (gad G o1)] : List Value).toArray) below meth c (MQ below (va_Qv (fun (u : pw_Mem) => u = μ') (pw_B G) (gA G)) (([.ref (gad G 20), .ref (gad G o1)] : List Value).toArray) s 0 0 (gA G)) G 4 50 [(0, .ref (gad G 20)), (1, .ref (gad G o1)), (2, .int v2)] [] m1) (n : Nat) (v2 : Int32) (v3 : Int32) (m1 : pw_Mem), fl_X0_keep_23 k o1 n v2 v3 m1 = some μ' → pw_Go p l e ({ frames := 1, cells := 0, slots := 0, locals := 40 }) s m (([.ref (gad G 20), .ref (gad G o1)] : List Value).toArray) below meth c (MQ below (va_Qv (fun (u : pw_Mem) => u = μ') (pw_B G) (gA G)) (([.ref (gad G 20), .ref (gad G o1)] : List Value).toArray) s 0 0 (gA G)) G 4 23 [(0, .ref (gad G 20)), (1, .ref (gad G o1)), (2, .int v2), (3, .int v3)] [] m1 := by
    intro k hk n
    induction n with
    | zero => intro v2 v3 m1 h; exact nomatch (show (none : Option (pw_Mem)) = some _ from h)
    | succ n ih =>
      intro v2 v3 m1 h
      rw [fl_X0_keep_23] at h
      refine pw_iload_n C dX0_keep_23 rfl 3 rfl ?_
      refine pw_bipush (v := (9 : Int32)) C dX0_keep_24 (by decide) ?_
      refine pw_icmp_ge (tgt := 50) C dX0_keep_26 (by decide) (fun c26 => ?_) (fun c26 => ?_)
      · have h := fn_pos c26 h
        refine pw_sub [0, 1, 2] rfl ?_
        exact hk _ _ h
      · have h := fn_neg c26 h
        refine pw_aload_n C dX0_keep_29 rfl 0 rfl ?_
        refine pw_get (v := .ref (gad G 21)) C iX0 (by decide) (pw_sh_20 _) rfl 0 (by decide) k2 rfl dX0_keep_30 ?_
        refine pw_iload_n C dX0_keep_33 rfl 2 rfl ?_
        refine pw_iinc (v := (v2 + 1)) (lv' := [(2, .int (v2 + 1)), (0, .ref (gad G 20)), (1, .ref (gad G o1)), (3, .int v3)]) C dX0_keep_34 (q := 2) rfl rfl (by decide) rfl ?_
        refine pw_aload_n C dX0_keep_37 rfl 2 rfl ?_
        refine pw_getN (v := .ref (gad G (o1 + 2))) C iX2 (pw_ltD ho1) (pw_shD ho1 _) rfl 7 (by decide) 16 rfl rfl dX0_keep_38 ?_
        refine pw_iload_n C dX0_keep_41 rfl 3 rfl ?_
        obtain ⟨hi42, h⟩ := fn_ix_s h
        refine pw_iald C (pw_ltD6 ho1 2 (by decide)) ((pw_shD2 ho1) _) hi42 dX0_keep_42 ?_
        obtain ⟨hi43, h⟩ := fn_ix_s h
        refine pw_iast C (by decide) pw_sh_21 hi43 dX0_keep_43 ?_
        refine pw_iinc (v := (v3 + 1)) (lv' := [(3, .int (v3 + 1)), (2, .int (v2 + 1)), (0, .ref (gad G 20)), (1, .ref (gad G o1))]) C dX0_keep_44 (q := 3) rfl rfl (by decide) rfl ?_
        refine pw_goto (tgt := 23) C dX0_keep_47 (by decide) ?_
        refine pw_sub [2, 3, 1, 0] rfl ?_
        exact ih _ _ _ h
  refine pw_sub [2, 3, 1, 0] rfl ?_
  refine L23 _ (fun y23_2 m50 h => ?_) _ _ _ _ h
  refine pw_iconst (v := (0 : Int32)) C dX0_keep_50 (by decide) ?_
  refine pw_istore_n (lv' := [(3, .int (0 : Int32)), (0, .ref (gad G 20)), (1, .ref (gad G o1)), (2, .int y23_2)]) C dX0_keep_51 rfl (by decide) rfl ?_
  have L52 : ∀ (k : pw_Mem → Option (pw_Mem)) (hk : ∀  (m1 : pw_Mem), k m1 = some μ' → pw_Go p l e ({ frames := 1, cells := 0, slots := 0, locals := 40 }) s m (([.ref (gad G 20), .ref (gad G o1)] : List Value).toArray) below meth c (MQ below (va_Qv (fun (u : pw_Mem) => u = μ') (pw_B G) (gA G)) (([.ref (gad G 20), .ref (gad G o1)] : List Value).toArray) s 0 0 (gA G)) G 4 93 [(0, .ref (gad G 20))] [] m1) (n : Nat) (v2 : Int32) (v3 : Int32) (m1 : pw_Mem), fl_X0_keep_52 k o1 n v2 v3 m1 = some μ' → pw_Go p l e ({ frames := 1, cells := 0, slots := 0, locals := 40 }) s m (([.ref (gad G 20), .ref (gad G o1)] : List Value).toArray) below meth c (MQ below (va_Qv (fun (u : pw_Mem) => u = μ') (pw_B G) (gA G)) (([.ref (gad G 20), .ref (gad G o1)] : List Value).toArray) s 0 0 (gA G)) G 4 52 [(0, .ref (gad G 20)), (1, .ref (gad G o1)), (2, .int v2), (3, .int v3)] [] m1 := by
    intro k hk n
    induction n with
    | zero => intro v2 v3 m1 h; exact nomatch (show (none : Option (pw_Mem)) = some _ from h)
    | succ n ih =>
      intro v2 v3 m1 h
      rw [fl_X0_keep_52] at h
      refine pw_iload_n C dX0_keep_52 rfl 3 rfl ?_
      refine pw_iconst (v := (5 : Int32)) C dX0_keep_53 (by decide) ?_
      refine pw_icmp_ge (tgt := 93) C dX0_keep_54 (by decide) (fun c54 => ?_) (fun c54 => ?_)
      · have h := fn_pos c54 h
        refine pw_sub [0] rfl ?_
        exact hk _ h
      · have h := fn_neg c54 h
        refine pw_aload_n C dX0_keep_57 rfl 0 rfl ?_
        refine pw_get (v := .ref (gad G 21)) C iX0 (by decide) (pw_sh_20 _) rfl 0 (by decide) k2 rfl dX0_keep_58 ?_
        refine pw_iload_n C dX0_keep_61 rfl 2 rfl ?_
        refine pw_iinc (v := (v2 + 1)) (lv' := [(2, .int (v2 + 1)), (0, .ref (gad G 20)), (1, .ref (gad G o1)), (3, .int v3)]) C dX0_keep_62 (q := 2) rfl rfl (by decide) rfl ?_
        refine pw_aload_n C dX0_keep_65 rfl 2 rfl ?_
        refine pw_getN (v := .ref (gad G (o1 + 4))) C iX2 (pw_ltD ho1) (pw_shD ho1 _) rfl 9 (by decide) 21 rfl rfl dX0_keep_66 ?_
        refine pw_iload_n C dX0_keep_69 rfl 3 rfl ?_
        obtain ⟨hi70, h⟩ := fn_ix_s h
        refine pw_iald C (pw_ltD6 ho1 4 (by decide)) ((pw_shD4 ho1) _) hi70 dX0_keep_70 ?_
        obtain ⟨hi71, h⟩ := fn_ix_s h
        refine pw_iast C (by decide) pw_sh_21 hi71 dX0_keep_71 ?_
        refine pw_aload_n C dX0_keep_72 rfl 1 rfl ?_
        refine pw_get (v := .ref (gad G 21)) C iX0 (by decide) (pw_sh_20 _) rfl 0 (by decide) k2 rfl dX0_keep_73 ?_
        refine pw_iload_n C dX0_keep_76 rfl 0 rfl ?_
        refine pw_iinc (v := ((v2 + 1) + 1)) (lv' := [(2, .int ((v2 + 1) + 1)), (0, .ref (gad G 20)), (1, .ref (gad G o1)), (3, .int v3)]) C dX0_keep_77 (q := 0) rfl rfl (by decide) rfl ?_
        refine pw_aload_n C dX0_keep_80 rfl 2 rfl ?_
        refine pw_getN (v := .ref (gad G (o1 + 5))) C iX2 (pw_ltD ho1) (pw_shD ho1 _) rfl 10 (by decide) 25 rfl rfl dX0_keep_81 ?_
        refine pw_iload_n C dX0_keep_84 rfl 3 rfl ?_
        obtain ⟨hi85, h⟩ := fn_ix_s h
        refine pw_iald C (pw_ltD6 ho1 5 (by decide)) ((pw_shD5 ho1) _) hi85 dX0_keep_85 ?_
        obtain ⟨hi86, h⟩ := fn_ix_s h
        refine pw_iast C (by decide) pw_sh_21 hi86 dX0_keep_86 ?_
        refine pw_iinc (v := (v3 + 1)) (lv' := [(3, .int (v3 + 1)), (2, .int ((v2 + 1) + 1)), (0, .ref (gad G 20)), (1, .ref (gad G o1))]) C dX0_keep_87 (q := 3) rfl rfl (by decide) rfl ?_
        refine pw_goto (tgt := 52) C dX0_keep_90 (by decide) ?_
        refine pw_sub [2, 3, 1, 0] rfl ?_
        exact ih _ _ _ h
  refine pw_sub [1, 2, 3, 0] rfl ?_
  refine L52 _ (fun m93 h => ?_) _ _ _ _ h
  refine pw_aload_n C dX0_keep_93 rfl 0 rfl ?_
  refine pw_aload_n C dX0_keep_94 rfl 0 rfl ?_
  refine pw_get (v := .int (m93 20 2)) C iX0 (by decide) (pw_sh_20 _) rfl 2 (by decide) k1 rfl dX0_keep_95 ?_
  refine pw_iconst (v := (1 : Int32)) C dX0_keep_98 (by decide) ?_
  refine pw_iadd C dX0_keep_99 ?_
  refine pw_bipush (v := (24 : Int32)) C dX0_keep_100 (by decide) ?_
  refine fn_jn1_s (fun x115_0 m115 => pw_Go p l e ({ frames := 1, cells := 0, slots := 0, locals := 40 }) s m (([.ref (gad G 20), .ref (gad G o1)] : List Value).toArray) below meth c (MQ below (va_Qv (fun (u : pw_Mem) => u = μ') (pw_B G) (gA G)) (([.ref (gad G 20), .ref (gad G o1)] : List Value).toArray) s 0 0 (gA G)) G 4 115 [(0, .ref (gad G 20))] [.int x115_0, .ref (gad G 20)] m115) h (fun x115_0 m115 h => ?_) (fun k115 hk115 h => ?_)
  · refine pw_put (host := "PulpitRoads") (ty := .int) C iX0 tyX0 tyX0_ok nmX0 (by decide) (pw_sh_20 _) rfl 2 (by decide) (pw_sh_20 _) k1 rfl (by decide +kernel) (fn_int _) (Nat.le_of_ble_eq_true rfl) dX0_keep_115 ?_
    refine pw_aload_n C dX0_keep_118 rfl 0 rfl ?_
    refine pw_aload_n C dX0_keep_119 rfl 0 rfl ?_
    refine pw_get (v := .int ((pw_st m115 20 2 x115_0) 20 1)) C iX0 (by decide) (pw_sh_20 _) rfl 1 (by decide) k3 rfl dX0_keep_120 ?_
    refine pw_iconst (v := (1 : Int32)) C dX0_keep_123 (by decide) ?_
    refine pw_iadd C dX0_keep_124 ?_
    refine pw_bipush (v := (24 : Int32)) C dX0_keep_125 (by decide) ?_
    refine pw_mmin (rest := [.ref (gad G 20)]) C k4 k5 k6 k7 (by decide) (Nat.le_of_ble_eq_true rfl) dX0_keep_127 ?_
    refine pw_put (host := "PulpitRoads") (ty := .int) C iX0 tyX0 tyX0_ok nmX0 (by decide) (pw_sh_20 _) rfl 1 (by decide) (pw_sh_20 _) k3 rfl (by decide +kernel) (fn_int _) (Nat.le_of_ble_eq_true rfl) dX0_keep_130 ?_
    exact pw_vret C h dX0_keep_133
  · refine pw_icmp_ge (tgt := 114) C dX0_keep_102 (by decide) (fun c102 => ?_) (fun c102 => ?_)
    · have h := fn_pos c102 h
      refine pw_iconst (v := (0 : Int32)) C dX0_keep_114 (by decide) ?_
      exact hk115 _ _ h
    · have h := fn_neg c102 h
      refine pw_aload_n C dX0_keep_105 rfl 0 rfl ?_
      refine pw_get (v := .int (m93 20 2)) C iX0 (by decide) (pw_sh_20 _) rfl 2 (by decide) k1 rfl dX0_keep_106 ?_
      refine pw_iconst (v := (1 : Int32)) C dX0_keep_109 (by decide) ?_
      refine pw_iadd C dX0_keep_110 ?_
      refine pw_goto (tgt := 115) C dX0_keep_111 (by decide) ?_
      exact hk115 _ _ h
set_option maxHeartbeats 4000000 in
set_option maxRecDepth 100000 in
theorem ct_X0_giveBack (l : Launch) {G : pw_G} (hG : pw_Ok G) {o1 : Nat} (ho1 : pw_KD o1) {μ μ' : pw_Mem} (h : fn_X0_giveBack o1 μ = some μ') : Met l yX0_giveBack wsX0_giveBack ({ frames := 0, cells := 0, slots := 0, locals := 0 }) (va_Pc [.ref (gad G 20), .ref (gad G o1)] (pw_Pre G μ)) (va_Qv (fun (u : pw_Mem) => u = μ') (pw_B G) (gA G)) 0 0 (gA G) := by
  refine pw_met (lv := [(0, .ref (gad G 20)), (1, .ref (gad G o1))]) (own := RX0) (cc := cX0_giveBack) (maxL := 4) (ret := none) hG rfl (by decide) rfl rfl (Nat.le_of_ble_eq_true rfl) ?_
  intro p e s m below meth c C
  have iX0 : ∀ w ∈ u_ws RX0 TX0 3, w ∈ wsX0_giveBack := fun _ h => List.mem_cons_of_mem _ (List.mem_append_left _ (List.mem_append_right _ (h)))
  have iX2 : ∀ w ∈ u_ws RX2 TX2 12, w ∈ wsX0_giveBack := fun _ h => List.mem_cons_of_mem _ (List.mem_append_right _ (h))
  have k1 := C.2.2.2.2.1 (.fieldLink RX0 15 "PulpitRoads$Acts" "end" "I") (List.mem_cons_of_mem _ (List.mem_append_left _ (List.mem_append_left _ (List.mem_of_getElem? (i := 0) rfl))))
  have k2 := C.2.2.2.2.1 (.fieldLink RX0 33 "PulpitRoads$Acts" "kept" "I") (List.mem_cons_of_mem _ (List.mem_append_left _ (List.mem_append_left _ (List.mem_of_getElem? (i := 1) rfl))))
  have k3 := C.2.2.2.2.1 (.fieldLink RX0 11 "PulpitRoads$Acts" "ring" "[I") (List.mem_cons_of_mem _ (List.mem_append_left _ (List.mem_append_left _ (List.mem_of_getElem? (i := 2) rfl))))
  unfold fn_X0_giveBack at h
  refine pw_aload_n C dX0_giveBack_0 rfl 0 rfl ?_
  refine pw_aload_n C dX0_giveBack_1 rfl 0 rfl ?_
  refine pw_get (v := .int (μ 20 2)) C iX0 (by decide) (pw_sh_20 _) rfl 2 (by decide) k1 rfl dX0_giveBack_2 ?_
  refine fn_jn1_s (fun x19_0 m19 => pw_Go p l e ({ frames := 0, cells := 0, slots := 0, locals := 0 }) s m (([.ref (gad G 20), .ref (gad G o1)] : List Value).toArray) below meth c (MQ below (va_Qv (fun (u : pw_Mem) => u = μ') (pw_B G) (gA G)) (([.ref (gad G 20), .ref (gad G o1)] : List Value).toArray) s 0 0 (gA G)) G 4 19 [(0, .ref (gad G 20)), (1, .ref (gad G o1))] [.int x19_0, .ref (gad G 20)] m19) h (fun x19_0 m19 h => ?_) (fun k19 hk19 h => ?_)
  · refine pw_put (host := "PulpitRoads") (ty := .int) C iX0 tyX0 tyX0_ok nmX0 (by decide) (pw_sh_20 _) rfl 2 (by decide) (pw_sh_20 _) k1 rfl (by decide +kernel) (fn_int _) (Nat.le_of_ble_eq_true rfl) dX0_giveBack_19 ?_
    refine pw_aload_n C dX0_giveBack_22 rfl 0 rfl ?_
    refine pw_dup C dX0_giveBack_23 rfl ?_
    refine pw_get (v := .int ((pw_st m19 20 2 x19_0) 20 1)) C iX0 (by decide) (pw_sh_20 _) rfl 1 (by decide) k2 rfl dX0_giveBack_24 ?_
    refine pw_iconst (v := (1 : Int32)) C dX0_giveBack_27 (by decide) ?_
    refine pw_isub C dX0_giveBack_28 ?_
    refine pw_put (host := "PulpitRoads") (ty := .int) C iX0 tyX0 tyX0_ok nmX0 (by decide) (pw_sh_20 _) rfl 1 (by decide) (pw_sh_20 _) k2 rfl (by decide +kernel) (fn_int _) (Nat.le_of_ble_eq_true rfl) dX0_giveBack_29 ?_
    refine pw_aload_n C dX0_giveBack_32 rfl 0 rfl ?_
    refine pw_get (v := .int ((pw_st (pw_st m19 20 2 x19_0) 20 1 (((pw_st m19 20 2 x19_0) 20 1) - (1 : Int32))) 20 2)) C iX0 (by decide) (pw_sh_20 _) rfl 2 (by decide) k1 rfl dX0_giveBack_33 ?_
    refine pw_bipush (v := (20 : Int32)) C dX0_giveBack_36 (by decide) ?_
    refine pw_imul C dX0_giveBack_38 ?_
    refine pw_istore_n (lv' := [(2, .int (((pw_st (pw_st m19 20 2 x19_0) 20 1 (((pw_st m19 20 2 x19_0) 20 1) - (1 : Int32))) 20 2) * (20 : Int32))), (0, .ref (gad G 20)), (1, .ref (gad G o1))]) C dX0_giveBack_39 rfl (by decide) rfl ?_
    refine pw_aload_n C dX0_giveBack_40 rfl 2 rfl ?_
    refine pw_aload_n C dX0_giveBack_41 rfl 1 rfl ?_
    refine pw_get (v := .ref (gad G 21)) C iX0 (by decide) (pw_sh_20 _) rfl 0 (by decide) k3 rfl dX0_giveBack_42 ?_
    refine pw_iload_n C dX0_giveBack_45 rfl 0 rfl ?_
    refine pw_iinc (v := ((((pw_st (pw_st m19 20 2 x19_0) 20 1 (((pw_st m19 20 2 x19_0) 20 1) - (1 : Int32))) 20 2) * (20 : Int32)) + 1)) (lv' := [(2, .int ((((pw_st (pw_st m19 20 2 x19_0) 20 1 (((pw_st m19 20 2 x19_0) 20 1) - (1 : Int32))) 20 2) * (20 : Int32)) + 1)), (0, .ref (gad G 20)), (1, .ref (gad G o1))]) C dX0_giveBack_46 (q := 0) rfl rfl (by decide) rfl ?_
    obtain ⟨hi49, h⟩ := fn_ix_s h
    refine pw_iald C (by decide) (pw_sh_21 _) hi49 dX0_giveBack_49 ?_
    refine pw_putN (host := "PulpitRoads") (ty := .int) C iX2 tyX2 tyX2_ok nmX2 (pw_ltD ho1) (pw_shD ho1 _) rfl 3 (by decide) (pw_shD ho1 _) 8 rfl rfl (by decide +kernel) (fn_int _) (Nat.le_of_ble_eq_true rfl) dX0_giveBack_50 ?_
    refine pw_iconst (v := (0 : Int32)) C dX0_giveBack_53 (by decide) ?_
    refine pw_istore_n (lv' := [(3, .int (0 : Int32)), (2, .int ((((pw_st (pw_st m19 20 2 x19_0) 20 1 (((pw_st m19 20 2 x19_0) 20 1) - (1 : Int32))) 20 2) * (20 : Int32)) + 1)), (0, .ref (gad G 20)), (1, .ref (gad G o1))]) C dX0_giveBack_54 rfl (by decide) rfl ?_
    have L55 : ∀ (k : Int32 → pw_Mem → Option (pw_Mem)) (hk : ∀ (v2 : Int32) (m1 : pw_Mem), k v2 m1 = some μ' → pw_Go p l e ({ frames := 0, cells := 0, slots := 0, locals := 0 }) s m (([.ref (gad G 20), .ref (gad G o1)] : List Value).toArray) below meth c (MQ below (va_Qv (fun (u : pw_Mem) => u = μ') (pw_B G) (gA G)) (([.ref (gad G 20), .ref (gad G o1)] : List Value).toArray) s 0 0 (gA G)) G 4 82 [(0, .ref (gad G 20)), (1, .ref (gad G o1)), (2, .int v2)] [] m1) (n : Nat) (v2 : Int32) (v3 : Int32) (m1 : pw_Mem), fl_X0_giveBack_55 k o1 n v2 v3 m1 = some μ' → pw_Go p l e ({ frames := 0, cells := 0, slots := 0, locals := 0 }) s m (([.ref (gad G 20), .ref (gad G o1)] : List Value).toArray) below meth c (MQ below (va_Qv (fun (u : pw_Mem) => u = μ') (pw_B G) (gA G)) (([.ref (gad G 20), .ref (gad G o1)] : List Value).toArray) s 0 0 (gA G)) G 4 55 [(0, .ref (gad G 20)), (1, .ref (gad G o1)), (2, .int v2), (3, .int v3)] [] m1 := by
      intro k hk n
      induction n with
      | zero => intro v2 v3 m1 h; exact nomatch (show (none : Option (pw_Mem)) = some _ from h)
      | succ n ih =>
        intro v2 v3 m1 h
        rw [fl_X0_giveBack_55] at h
        refine pw_iload_n C dX0_giveBack_55 rfl 3 rfl ?_
        refine pw_bipush (v := (9 : Int32)) C dX0_giveBack_56 (by decide) ?_
        refine pw_icmp_ge (tgt := 82) C dX0_giveBack_58 (by decide) (fun c58 => ?_) (fun c58 => ?_)
        · have h := fn_pos c58 h
          refine pw_sub [0, 1, 2] rfl ?_
          exact hk _ _ h
        · have h := fn_neg c58 h
          refine pw_aload_n C dX0_giveBack_61 rfl 1 rfl ?_
          refine pw_getN (v := .ref (gad G (o1 + 2))) C iX2 (pw_ltD ho1) (pw_shD ho1 _) rfl 7 (by decide) 16 rfl rfl dX0_giveBack_62 ?_
          refine pw_iload_n C dX0_giveBack_65 rfl 3 rfl ?_
          refine pw_aload_n C dX0_giveBack_66 rfl 0 rfl ?_
          refine pw_get (v := .ref (gad G 21)) C iX0 (by decide) (pw_sh_20 _) rfl 0 (by decide) k3 rfl dX0_giveBack_67 ?_
          refine pw_iload_n C dX0_giveBack_70 rfl 2 rfl ?_
          refine pw_iinc (v := (v2 + 1)) (lv' := [(2, .int (v2 + 1)), (0, .ref (gad G 20)), (1, .ref (gad G o1)), (3, .int v3)]) C dX0_giveBack_71 (q := 2) rfl rfl (by decide) rfl ?_
          obtain ⟨hi74, h⟩ := fn_ix_s h
          refine pw_iald C (by decide) (pw_sh_21 _) hi74 dX0_giveBack_74 ?_
          obtain ⟨hi75, h⟩ := fn_ix_s h
          refine pw_iast C (pw_ltD6 ho1 2 (by decide)) (pw_shD2 ho1) hi75 dX0_giveBack_75 ?_
          refine pw_iinc (v := (v3 + 1)) (lv' := [(3, .int (v3 + 1)), (2, .int (v2 + 1)), (0, .ref (gad G 20)), (1, .ref (gad G o1))]) C dX0_giveBack_76 (q := 3) rfl rfl (by decide) rfl ?_
          refine pw_goto (tgt := 55) C dX0_giveBack_79 (by decide) ?_
          refine pw_sub [2, 3, 1, 0] rfl ?_
          exact ih _ _ _ h
    refine pw_sub [2, 3, 1, 0] rfl ?_
    refine L55 _ (fun y55_2 m82 h => ?_) _ _ _ _ h
    refine pw_iconst (v := (0 : Int32)) C dX0_giveBack_82 (by decide) ?_
    refine pw_istore_n (lv' := [(3, .int (0 : Int32)), (0, .ref (gad G 20)), (1, .ref (gad G o1)), (2, .int y55_2)]) C dX0_giveBack_83 rfl (by decide) rfl ?_
    have L84 : ∀ (k : pw_Mem → Option (pw_Mem)) (hk : ∀  (m1 : pw_Mem), k m1 = some μ' → pw_Go p l e ({ frames := 0, cells := 0, slots := 0, locals := 0 }) s m (([.ref (gad G 20), .ref (gad G o1)] : List Value).toArray) below meth c (MQ below (va_Qv (fun (u : pw_Mem) => u = μ') (pw_B G) (gA G)) (([.ref (gad G 20), .ref (gad G o1)] : List Value).toArray) s 0 0 (gA G)) G 4 125 [] [] m1) (n : Nat) (v2 : Int32) (v3 : Int32) (m1 : pw_Mem), fl_X0_giveBack_84 k o1 n v2 v3 m1 = some μ' → pw_Go p l e ({ frames := 0, cells := 0, slots := 0, locals := 0 }) s m (([.ref (gad G 20), .ref (gad G o1)] : List Value).toArray) below meth c (MQ below (va_Qv (fun (u : pw_Mem) => u = μ') (pw_B G) (gA G)) (([.ref (gad G 20), .ref (gad G o1)] : List Value).toArray) s 0 0 (gA G)) G 4 84 [(0, .ref (gad G 20)), (1, .ref (gad G o1)), (2, .int v2), (3, .int v3)] [] m1 := by
      intro k hk n
      induction n with
      | zero => intro v2 v3 m1 h; exact nomatch (show (none : Option (pw_Mem)) = some _ from h)
      | succ n ih =>
        intro v2 v3 m1 h
        rw [fl_X0_giveBack_84] at h
        refine pw_iload_n C dX0_giveBack_84 rfl 3 rfl ?_
        refine pw_iconst (v := (5 : Int32)) C dX0_giveBack_85 (by decide) ?_
        refine pw_icmp_ge (tgt := 125) C dX0_giveBack_86 (by decide) (fun c86 => ?_) (fun c86 => ?_)
        · have h := fn_pos c86 h
          refine pw_sub [] rfl ?_
          exact hk _ h
        · have h := fn_neg c86 h
          refine pw_aload_n C dX0_giveBack_89 rfl 1 rfl ?_
          refine pw_getN (v := .ref (gad G (o1 + 4))) C iX2 (pw_ltD ho1) (pw_shD ho1 _) rfl 9 (by decide) 21 rfl rfl dX0_giveBack_90 ?_
          refine pw_iload_n C dX0_giveBack_93 rfl 3 rfl ?_
          refine pw_aload_n C dX0_giveBack_94 rfl 0 rfl ?_
          refine pw_get (v := .ref (gad G 21)) C iX0 (by decide) (pw_sh_20 _) rfl 0 (by decide) k3 rfl dX0_giveBack_95 ?_
          refine pw_iload_n C dX0_giveBack_98 rfl 2 rfl ?_
          refine pw_iinc (v := (v2 + 1)) (lv' := [(2, .int (v2 + 1)), (0, .ref (gad G 20)), (1, .ref (gad G o1)), (3, .int v3)]) C dX0_giveBack_99 (q := 2) rfl rfl (by decide) rfl ?_
          obtain ⟨hi102, h⟩ := fn_ix_s h
          refine pw_iald C (by decide) (pw_sh_21 _) hi102 dX0_giveBack_102 ?_
          obtain ⟨hi103, h⟩ := fn_ix_s h
          refine pw_iast C (pw_ltD6 ho1 4 (by decide)) (pw_shD4 ho1) hi103 dX0_giveBack_103 ?_
          refine pw_aload_n C dX0_giveBack_104 rfl 2 rfl ?_
          refine pw_getN (v := .ref (gad G (o1 + 5))) C iX2 (pw_ltD ho1) (pw_shD ho1 _) rfl 10 (by decide) 25 rfl rfl dX0_giveBack_105 ?_
          refine pw_iload_n C dX0_giveBack_108 rfl 3 rfl ?_
          refine pw_aload_n C dX0_giveBack_109 rfl 1 rfl ?_
          refine pw_get (v := .ref (gad G 21)) C iX0 (by decide) (pw_sh_20 _) rfl 0 (by decide) k3 rfl dX0_giveBack_110 ?_
          refine pw_iload_n C dX0_giveBack_113 rfl 0 rfl ?_
          refine pw_iinc (v := ((v2 + 1) + 1)) (lv' := [(2, .int ((v2 + 1) + 1)), (0, .ref (gad G 20)), (1, .ref (gad G o1)), (3, .int v3)]) C dX0_giveBack_114 (q := 0) rfl rfl (by decide) rfl ?_
          obtain ⟨hi117, h⟩ := fn_ix_s h
          refine pw_iald C (by decide) (pw_sh_21 _) hi117 dX0_giveBack_117 ?_
          obtain ⟨hi118, h⟩ := fn_ix_s h
          refine pw_iast C (pw_ltD6 ho1 5 (by decide)) (pw_shD5 ho1) hi118 dX0_giveBack_118 ?_
          refine pw_iinc (v := (v3 + 1)) (lv' := [(3, .int (v3 + 1)), (2, .int ((v2 + 1) + 1)), (0, .ref (gad G 20)), (1, .ref (gad G o1))]) C dX0_giveBack_119 (q := 3) rfl rfl (by decide) rfl ?_
          refine pw_goto (tgt := 84) C dX0_giveBack_122 (by decide) ?_
          refine pw_sub [2, 3, 1, 0] rfl ?_
          exact ih _ _ _ h
    refine pw_sub [1, 2, 3, 0] rfl ?_
    refine L84 _ (fun m125 h => ?_) _ _ _ _ h
    exact pw_vret C h dX0_giveBack_125
  · refine pw_if_le (tgt := 17) C dX0_giveBack_5 (by decide) (fun c5 => ?_) (fun c5 => ?_)
    · have h := fn_pos c5 h
      refine pw_bipush (v := (23 : Int32)) C dX0_giveBack_17 (by decide) ?_
      exact hk19 _ _ h
    · have h := fn_neg c5 h
      refine pw_aload_n C dX0_giveBack_8 rfl 0 rfl ?_
      refine pw_get (v := .int (μ 20 2)) C iX0 (by decide) (pw_sh_20 _) rfl 2 (by decide) k1 rfl dX0_giveBack_9 ?_
      refine pw_iconst (v := (1 : Int32)) C dX0_giveBack_12 (by decide) ?_
      refine pw_isub C dX0_giveBack_13 ?_
      refine pw_goto (tgt := 19) C dX0_giveBack_14 (by decide) ?_
      exact hk19 _ _ h
set_option maxHeartbeats 4000000 in
set_option maxRecDepth 100000 in
theorem ct_X1_bodyOf (l : Launch) {G : pw_G} (hG : pw_Ok G) {a0 : Int32} {a1 : Int32}  {μ μ' : pw_Mem} {r : Int32} (h : fn_X1_bodyOf a0 a1 μ = some (r, μ')) : Met l yX1_bodyOf wsX1_bodyOf ({ frames := 0, cells := 0, slots := 0, locals := 0 }) (va_Pc [.int a0, .int a1] (pw_Pre G μ)) (va_Qi (fun (r1 : Int32) (u : pw_Mem) => r1 = r ∧ u = μ') (pw_B G) (gA G)) 0 0 (gA G) := by
  refine pw_met (lv := [(0, .int a0), (1, .int a1)]) (own := RX1) (cc := cX1_bodyOf) (maxL := 5) (ret := some .int) hG rfl (by decide) rfl rfl (Nat.le_of_ble_eq_true rfl) ?_
  intro p e s m below meth c C
  unfold fn_X1_bodyOf at h
  refine pw_iload_n C dX1_bodyOf_0 rfl 1 rfl ?_
  refine pw_if_ne (tgt := 10) C dX1_bodyOf_1 (by decide) (fun c1 => ?_) (fun c1 => ?_)
  · have h := fn_pos c1 h
    refine pw_getsN C 3 (by decide) 39 rfl dX1_bodyOf_10 ?_
    refine pw_astore_n (lv' := [(2, .ref (gS G 3)), (0, .int a0), (1, .int a1)]) C dX1_bodyOf_13 rfl (by decide) rfl ?_
    refine pw_iload_n C dX1_bodyOf_14 rfl 1 rfl ?_
    refine pw_istore_n (lv' := [(3, .int a0), (2, .ref (gS G 3)), (0, .int a0), (1, .int a1)]) C dX1_bodyOf_15 rfl (by decide) rfl ?_
    refine pw_iconst (v := (0 : Int32)) C dX1_bodyOf_16 (by decide) ?_
    refine pw_istore (lv' := [(4, .int (0 : Int32)), (3, .int a0), (2, .ref (gS G 3)), (0, .int a0), (1, .int a1)]) C dX1_bodyOf_17 (by decide) rfl ?_
    have L19 : ∀ (k : Int32 → pw_Mem → Option (Int32 × pw_Mem)) (hk : ∀ (v3 : Int32) (m1 : pw_Mem), k v3 m1 = some (r, μ') → pw_Go p l e ({ frames := 0, cells := 0, slots := 0, locals := 0 }) s m (([.int a0, .int a1] : List Value).toArray) below meth c (MQ below (va_Qi (fun (r1 : Int32) (u : pw_Mem) => r1 = r ∧ u = μ') (pw_B G) (gA G)) (([.int a0, .int a1] : List Value).toArray) s 0 0 (gA G)) G 5 44 [(2, .ref (gS G 3)), (3, .int v3)] [] m1) (n : Nat) (v3 : Int32) (v4 : Int32) (m1 : pw_Mem), fl_X1_bodyOf_19_t3 k  n v3 v4 m1 = some (r, μ') → pw_Go p l e ({ frames := 0, cells := 0, slots := 0, locals := 0 }) s m (([.int a0, .int a1] : List Value).toArray) below meth c (MQ below (va_Qi (fun (r1 : Int32) (u : pw_Mem) => r1 = r ∧ u = μ') (pw_B G) (gA G)) (([.int a0, .int a1] : List Value).toArray) s 0 0 (gA G)) G 5 19 [(2, .ref (gS G 3)), (3, .int v3), (4, .int v4)] [] m1 := by
      intro k hk n
      induction n with
      | zero => intro v3 v4 m1 h; exact nomatch (show (none : Option (Int32 × pw_Mem)) = some _ from h)
      | succ n ih =>
        intro v3 v4 m1 h
        rw [fl_X1_bodyOf_19_t3] at h
        refine pw_iload C dX1_bodyOf_19 2 rfl ?_
        refine pw_bipush (v := (6 : Int32)) C dX1_bodyOf_21 (by decide) ?_
        refine pw_icmp_ge (tgt := 44) C dX1_bodyOf_23 (by decide) (fun c23 => ?_) (fun c23 => ?_)
        · have h := fn_pos c23 h
          refine pw_sub [0, 1] rfl ?_
          exact hk _ _ h
        · have h := fn_neg c23 h
          refine pw_aload_n C dX1_bodyOf_26 rfl 0 rfl ?_
          refine pw_iload_n C dX1_bodyOf_27 rfl 1 rfl ?_
          obtain ⟨hi28, h⟩ := fn_ix_s h
          refine pw_ti C 3 (by decide) hi28 dX1_bodyOf_28 ?_
          refine pw_if_ne (tgt := 44) C dX1_bodyOf_29 (by decide) (fun c29 => ?_) (fun c29 => ?_)
          · have h := fn_pos c29 h
            refine pw_sub [0, 1] rfl ?_
            exact hk _ _ h
          · have h := fn_neg c29 h
            refine pw_getsN C 1 (by decide) 40 rfl dX1_bodyOf_32 ?_
            refine pw_iload_n C dX1_bodyOf_35 rfl 1 rfl ?_
            obtain ⟨hi36, h⟩ := fn_ix_s h
            refine pw_ti C 1 (by decide) hi36 dX1_bodyOf_36 ?_
            refine pw_istore_n (lv' := [(3, .int (pw_tv 1 (v3).toNatClampNeg)), (2, .ref (gS G 3)), (4, .int v4)]) C dX1_bodyOf_37 rfl (by decide) rfl ?_
            refine pw_iinc (v := (v4 + 1)) (lv' := [(4, .int (v4 + 1)), (3, .int (pw_tv 1 (v3).toNatClampNeg)), (2, .ref (gS G 3))]) C dX1_bodyOf_38 (q := 2) rfl rfl (by decide) rfl ?_
            refine pw_goto (tgt := 19) C dX1_bodyOf_41 (by decide) ?_
            refine pw_sub [2, 1, 0] rfl ?_
            exact ih _ _ _ h
    refine pw_sub [2, 1, 0] rfl ?_
    refine L19 _ (fun y19_3 m44 h => ?_) _ _ _ _ h
    refine pw_aload_n C dX1_bodyOf_44 rfl 0 rfl ?_
    refine pw_iload_n C dX1_bodyOf_45 rfl 1 rfl ?_
    obtain ⟨hi46, h⟩ := fn_ix_s h
    refine pw_ti C 3 (by decide) hi46 dX1_bodyOf_46 ?_
    exact pw_iret C h dX1_bodyOf_47
  · have h := fn_neg c1 h
    refine pw_getsN C 2 (by decide) 38 rfl dX1_bodyOf_4 ?_
    refine pw_goto (tgt := 13) C dX1_bodyOf_7 (by decide) ?_
    refine pw_astore_n (lv' := [(2, .ref (gS G 2)), (0, .int a0), (1, .int a1)]) C dX1_bodyOf_13 rfl (by decide) rfl ?_
    refine pw_iload_n C dX1_bodyOf_14 rfl 1 rfl ?_
    refine pw_istore_n (lv' := [(3, .int a0), (2, .ref (gS G 2)), (0, .int a0), (1, .int a1)]) C dX1_bodyOf_15 rfl (by decide) rfl ?_
    refine pw_iconst (v := (0 : Int32)) C dX1_bodyOf_16 (by decide) ?_
    refine pw_istore (lv' := [(4, .int (0 : Int32)), (3, .int a0), (2, .ref (gS G 2)), (0, .int a0), (1, .int a1)]) C dX1_bodyOf_17 (by decide) rfl ?_
    have L19 : ∀ (k : Int32 → pw_Mem → Option (Int32 × pw_Mem)) (hk : ∀ (v3 : Int32) (m1 : pw_Mem), k v3 m1 = some (r, μ') → pw_Go p l e ({ frames := 0, cells := 0, slots := 0, locals := 0 }) s m (([.int a0, .int a1] : List Value).toArray) below meth c (MQ below (va_Qi (fun (r1 : Int32) (u : pw_Mem) => r1 = r ∧ u = μ') (pw_B G) (gA G)) (([.int a0, .int a1] : List Value).toArray) s 0 0 (gA G)) G 5 44 [(2, .ref (gS G 2)), (3, .int v3)] [] m1) (n : Nat) (v3 : Int32) (v4 : Int32) (m1 : pw_Mem), fl_X1_bodyOf_19_t2 k  n v3 v4 m1 = some (r, μ') → pw_Go p l e ({ frames := 0, cells := 0, slots := 0, locals := 0 }) s m (([.int a0, .int a1] : List Value).toArray) below meth c (MQ below (va_Qi (fun (r1 : Int32) (u : pw_Mem) => r1 = r ∧ u = μ') (pw_B G) (gA G)) (([.int a0, .int a1] : List Value).toArray) s 0 0 (gA G)) G 5 19 [(2, .ref (gS G 2)), (3, .int v3), (4, .int v4)] [] m1 := by
      intro k hk n
      induction n with
      | zero => intro v3 v4 m1 h; exact nomatch (show (none : Option (Int32 × pw_Mem)) = some _ from h)
      | succ n ih =>
        intro v3 v4 m1 h
        rw [fl_X1_bodyOf_19_t2] at h
        refine pw_iload C dX1_bodyOf_19 2 rfl ?_
        refine pw_bipush (v := (6 : Int32)) C dX1_bodyOf_21 (by decide) ?_
        refine pw_icmp_ge (tgt := 44) C dX1_bodyOf_23 (by decide) (fun c23 => ?_) (fun c23 => ?_)
        · have h := fn_pos c23 h
          refine pw_sub [0, 1] rfl ?_
          exact hk _ _ h
        · have h := fn_neg c23 h
          refine pw_aload_n C dX1_bodyOf_26 rfl 0 rfl ?_
          refine pw_iload_n C dX1_bodyOf_27 rfl 1 rfl ?_
          obtain ⟨hi28, h⟩ := fn_ix_s h
          refine pw_ti C 2 (by decide) hi28 dX1_bodyOf_28 ?_
          refine pw_if_ne (tgt := 44) C dX1_bodyOf_29 (by decide) (fun c29 => ?_) (fun c29 => ?_)
          · have h := fn_pos c29 h
            refine pw_sub [0, 1] rfl ?_
            exact hk _ _ h
          · have h := fn_neg c29 h
            refine pw_getsN C 1 (by decide) 40 rfl dX1_bodyOf_32 ?_
            refine pw_iload_n C dX1_bodyOf_35 rfl 1 rfl ?_
            obtain ⟨hi36, h⟩ := fn_ix_s h
            refine pw_ti C 1 (by decide) hi36 dX1_bodyOf_36 ?_
            refine pw_istore_n (lv' := [(3, .int (pw_tv 1 (v3).toNatClampNeg)), (2, .ref (gS G 2)), (4, .int v4)]) C dX1_bodyOf_37 rfl (by decide) rfl ?_
            refine pw_iinc (v := (v4 + 1)) (lv' := [(4, .int (v4 + 1)), (3, .int (pw_tv 1 (v3).toNatClampNeg)), (2, .ref (gS G 2))]) C dX1_bodyOf_38 (q := 2) rfl rfl (by decide) rfl ?_
            refine pw_goto (tgt := 19) C dX1_bodyOf_41 (by decide) ?_
            refine pw_sub [2, 1, 0] rfl ?_
            exact ih _ _ _ h
    refine pw_sub [2, 1, 0] rfl ?_
    refine L19 _ (fun y19_3 m44 h => ?_) _ _ _ _ h
    refine pw_aload_n C dX1_bodyOf_44 rfl 0 rfl ?_
    refine pw_iload_n C dX1_bodyOf_45 rfl 1 rfl ?_
    obtain ⟨hi46, h⟩ := fn_ix_s h
    refine pw_ti C 2 (by decide) hi46 dX1_bodyOf_46 ?_
    exact pw_iret C h dX1_bodyOf_47
set_option maxHeartbeats 4000000 in
set_option maxRecDepth 100000 in
theorem ct_X1_leave (l : Launch) {G : pw_G} (hG : pw_Ok G) {a1 : Int32}  {μ μ' : pw_Mem} (h : fn_X1_leave a1 μ = some μ') : Met l yX1_leave wsX1_leave ({ frames := 0, cells := 0, slots := 0, locals := 0 }) (va_Pc [.ref (gad G 22), .int a1] (pw_Pre G μ)) (va_Qv (fun (u : pw_Mem) => u = μ') (pw_B G) (gA G)) 0 0 (gA G) := by
  refine pw_met (lv := [(0, .ref (gad G 22)), (1, .int a1)]) (own := RX1) (cc := cX1_leave) (maxL := 2) (ret := none) hG rfl (by decide) rfl rfl (Nat.le_of_ble_eq_true rfl) ?_
  intro p e s m below meth c C
  have iX1 : ∀ w ∈ u_ws RX1 TX1 2, w ∈ wsX1_leave := fun _ h => List.mem_cons_of_mem _ (List.mem_append_right _ (h))
  have k1 := C.2.2.2.2.1 (.fieldLink RX1 51 "PulpitRoads$Bodies" "traced" "I") (List.mem_cons_of_mem _ (List.mem_append_left _ (List.mem_of_getElem? (i := 0) rfl)))
  have k2 := C.2.2.2.2.1 (.fieldLink RX1 11 "PulpitRoads$Bodies" "numbers" "[I") (List.mem_cons_of_mem _ (List.mem_append_left _ (List.mem_of_getElem? (i := 1) rfl)))
  unfold fn_X1_leave at h
  refine pw_aload_n C dX1_leave_0 rfl 0 rfl ?_
  refine pw_get (v := .int (μ 22 1)) C iX1 (by decide) (pw_sh_22 _) rfl 1 (by decide) k1 rfl dX1_leave_1 ?_
  refine pw_bipush (v := (16 : Int32)) C dX1_leave_4 (by decide) ?_
  refine pw_icmp_ge (tgt := 29) C dX1_leave_6 (by decide) (fun c6 => ?_) (fun c6 => ?_)
  · have h := fn_pos c6 h
    exact pw_vret C h dX1_leave_29
  · have h := fn_neg c6 h
    refine pw_aload_n C dX1_leave_9 rfl 0 rfl ?_
    refine pw_get (v := .ref (gad G 23)) C iX1 (by decide) (pw_sh_22 _) rfl 0 (by decide) k2 rfl dX1_leave_10 ?_
    refine pw_aload_n C dX1_leave_13 rfl 0 rfl ?_
    refine pw_get (v := .int (μ 22 1)) C iX1 (by decide) (pw_sh_22 _) rfl 1 (by decide) k1 rfl dX1_leave_14 ?_
    refine pw_iload_n C dX1_leave_17 rfl 1 rfl ?_
    obtain ⟨hi18, h⟩ := fn_ix_s h
    refine pw_iast C (by decide) pw_sh_23 hi18 dX1_leave_18 ?_
    refine pw_aload_n C dX1_leave_19 rfl 0 rfl ?_
    refine pw_dup C dX1_leave_20 rfl ?_
    refine pw_get (v := .int ((pw_st μ 23 ((μ 22 1)).toNatClampNeg a1) 22 1)) C iX1 (by decide) (pw_sh_22 _) rfl 1 (by decide) k1 rfl dX1_leave_21 ?_
    refine pw_iconst (v := (1 : Int32)) C dX1_leave_24 (by decide) ?_
    refine pw_iadd C dX1_leave_25 ?_
    refine pw_put (host := "PulpitRoads") (ty := .int) C iX1 tyX1 tyX1_ok nmX1 (by decide) (pw_sh_22 _) rfl 1 (by decide) (pw_sh_22 _) k1 rfl (by decide +kernel) (fn_int _) (Nat.le_of_ble_eq_true rfl) dX1_leave_26 ?_
    exact pw_vret C h dX1_leave_29
set_option maxHeartbeats 4000000 in
set_option maxRecDepth 100000 in
theorem ct_X2_begin (l : Launch) {G : pw_G} (hG : pw_Ok G) {o : Nat} (ho : pw_KD o) {μ μ' : pw_Mem} (h : fn_X2_begin o μ = some μ') : Met l yX2_begin wsX2_begin ({ frames := 0, cells := 0, slots := 0, locals := 0 }) (va_Pc [.ref (gad G o)] (pw_Pre G μ)) (va_Qv (fun (u : pw_Mem) => u = μ') (pw_B G) (gA G)) 0 0 (gA G) := by
  refine pw_met (lv := [(0, .ref (gad G o))]) (own := RX2) (cc := cX2_begin) (maxL := 2) (ret := none) hG rfl (by decide) rfl rfl (Nat.le_of_ble_eq_true rfl) ?_
  intro p e s m below meth c C
  have iX2 : ∀ w ∈ u_ws RX2 TX2 12, w ∈ wsX2_begin := fun _ h => List.mem_cons_of_mem _ (List.mem_append_right _ (h))
  have k1 := C.2.2.2.2.1 (.fieldLink RX2 30 "PulpitRoads$Road" "stands" "Z") (List.mem_cons_of_mem _ (List.mem_append_left _ (List.mem_of_getElem? (i := 0) rfl)))
  have k2 := C.2.2.2.2.1 (.fieldLink RX2 34 "PulpitRoads$Road" "hour" "I") (List.mem_cons_of_mem _ (List.mem_append_left _ (List.mem_of_getElem? (i := 1) rfl)))
  have k3 := C.2.2.2.2.1 (.fieldLink RX2 38 "PulpitRoads$Road" "stretches" "I") (List.mem_cons_of_mem _ (List.mem_append_left _ (List.mem_of_getElem? (i := 2) rfl)))
  have k4 := C.2.2.2.2.1 (.fieldLink RX2 41 "PulpitRoads$Road" "pulpits" "I") (List.mem_cons_of_mem _ (List.mem_append_left _ (List.mem_of_getElem? (i := 3) rfl)))
  have k5 := C.2.2.2.2.1 (.fieldLink RX2 15 "PulpitRoads$Road" "heardAt" "[I") (List.mem_cons_of_mem _ (List.mem_append_left _ (List.mem_of_getElem? (i := 4) rfl)))
  unfold fn_X2_begin at h
  refine pw_aload_n C dX2_begin_0 rfl 0 rfl ?_
  refine pw_iconst (v := (1 : Int32)) C dX2_begin_1 (by decide) ?_
  obtain ⟨hz2, h⟩ := fn_bz_s h
  refine pw_put (host := "PulpitRoads") (ty := .boolean) C iX2 tyX2 tyX2_ok nmX2 (pw_ltD ho) (pw_shD ho _) rfl 0 (by decide) (pw_shD ho _) k1 rfl (by decide +kernel) (fn_bool hz2) (Nat.le_of_ble_eq_true rfl) dX2_begin_2 ?_
  refine pw_aload_n C dX2_begin_5 rfl 0 rfl ?_
  refine pw_iconst (v := (0 : Int32)) C dX2_begin_6 (by decide) ?_
  refine pw_put (host := "PulpitRoads") (ty := .int) C iX2 tyX2 tyX2_ok nmX2 (pw_ltD ho) (pw_shD ho _) rfl 3 (by decide) (pw_shD ho _) k2 rfl (by decide +kernel) (fn_int _) (Nat.le_of_ble_eq_true rfl) dX2_begin_7 ?_
  refine pw_aload_n C dX2_begin_10 rfl 0 rfl ?_
  refine pw_iconst (v := (0 : Int32)) C dX2_begin_11 (by decide) ?_
  refine pw_put (host := "PulpitRoads") (ty := .int) C iX2 tyX2 tyX2_ok nmX2 (pw_ltD ho) (pw_shD ho _) rfl 4 (by decide) (pw_shD ho _) k3 rfl (by decide +kernel) (fn_int _) (Nat.le_of_ble_eq_true rfl) dX2_begin_12 ?_
  refine pw_aload_n C dX2_begin_15 rfl 0 rfl ?_
  refine pw_iconst (v := (0 : Int32)) C dX2_begin_16 (by decide) ?_
  refine pw_put (host := "PulpitRoads") (ty := .int) C iX2 tyX2 tyX2_ok nmX2 (pw_ltD ho) (pw_shD ho _) rfl 5 (by decide) (pw_shD ho _) k4 rfl (by decide +kernel) (fn_int _) (Nat.le_of_ble_eq_true rfl) dX2_begin_17 ?_
  refine pw_iconst (v := (0 : Int32)) C dX2_begin_20 (by decide) ?_
  refine pw_istore_n (lv' := [(1, .int (0 : Int32)), (0, .ref (gad G o))]) C dX2_begin_21 rfl (by decide) rfl ?_
  have L22 : ∀ (k : pw_Mem → Option (pw_Mem)) (hk : ∀  (m1 : pw_Mem), k m1 = some μ' → pw_Go p l e ({ frames := 0, cells := 0, slots := 0, locals := 0 }) s m (([.ref (gad G o)] : List Value).toArray) below meth c (MQ below (va_Qv (fun (u : pw_Mem) => u = μ') (pw_B G) (gA G)) (([.ref (gad G o)] : List Value).toArray) s 0 0 (gA G)) G 2 41 [] [] m1) (n : Nat) (v1 : Int32) (m1 : pw_Mem), fl_X2_begin_22 k o n v1 m1 = some μ' → pw_Go p l e ({ frames := 0, cells := 0, slots := 0, locals := 0 }) s m (([.ref (gad G o)] : List Value).toArray) below meth c (MQ below (va_Qv (fun (u : pw_Mem) => u = μ') (pw_B G) (gA G)) (([.ref (gad G o)] : List Value).toArray) s 0 0 (gA G)) G 2 22 [(0, .ref (gad G o)), (1, .int v1)] [] m1 := by
    intro k hk n
    induction n with
    | zero => intro v1 m1 h; exact nomatch (show (none : Option (pw_Mem)) = some _ from h)
    | succ n ih =>
      intro v1 m1 h
      rw [fl_X2_begin_22] at h
      refine pw_iload_n C dX2_begin_22 rfl 1 rfl ?_
      refine pw_bipush (v := (9 : Int32)) C dX2_begin_23 (by decide) ?_
      refine pw_icmp_ge (tgt := 41) C dX2_begin_25 (by decide) (fun c25 => ?_) (fun c25 => ?_)
      · have h := fn_pos c25 h
        refine pw_sub [] rfl ?_
        exact hk _ h
      · have h := fn_neg c25 h
        refine pw_aload_n C dX2_begin_28 rfl 0 rfl ?_
        refine pw_get (v := .ref (gad G (o + 2))) C iX2 (pw_ltD ho) (pw_shD ho _) rfl 7 (by decide) k5 rfl dX2_begin_29 ?_
        refine pw_iload_n C dX2_begin_32 rfl 1 rfl ?_
        refine pw_iconst (v := (0 : Int32)) C dX2_begin_33 (by decide) ?_
        obtain ⟨hi34, h⟩ := fn_ix_s h
        refine pw_iast C (pw_ltD6 ho 2 (by decide)) (pw_shD2 ho) hi34 dX2_begin_34 ?_
        refine pw_iinc (v := (v1 + 1)) (lv' := [(1, .int (v1 + 1)), (0, .ref (gad G o))]) C dX2_begin_35 (q := 1) rfl rfl (by decide) rfl ?_
        refine pw_goto (tgt := 22) C dX2_begin_38 (by decide) ?_
        refine pw_sub [1, 0] rfl ?_
        exact ih _ _ h
  refine pw_sub [1, 0] rfl ?_
  refine L22 _ (fun m41 h => ?_) _ _ _ h
  exact pw_vret C h dX2_begin_41
set_option maxHeartbeats 4000000 in
set_option maxRecDepth 100000 in
theorem ct_X2_take (l : Launch) {G : pw_G} (hG : pw_Ok G) {o : Nat} {o1 : Nat} (ho : pw_KD o) (ho1 : pw_KD o1) {μ μ' : pw_Mem} (h : fn_X2_take o o1 μ = some μ') : Met l yX2_take wsX2_take ({ frames := 0, cells := 0, slots := 0, locals := 0 }) (va_Pc [.ref (gad G o), .ref (gad G o1)] (pw_Pre G μ)) (va_Qv (fun (u : pw_Mem) => u = μ') (pw_B G) (gA G)) 0 0 (gA G) := by
  refine pw_met (lv := [(0, .ref (gad G o)), (1, .ref (gad G o1))]) (own := RX2) (cc := cX2_take) (maxL := 3) (ret := none) hG rfl (by decide) rfl rfl (Nat.le_of_ble_eq_true rfl) ?_
  intro p e s m below meth c C
  have iX2 : ∀ w ∈ u_ws RX2 TX2 12, w ∈ wsX2_take := fun _ h => List.mem_cons_of_mem _ (List.mem_append_right _ (h))
  have k1 := C.2.2.2.2.1 (.fieldLink RX2 30 "PulpitRoads$Road" "stands" "Z") (List.mem_cons_of_mem _ (List.mem_append_left _ (List.mem_of_getElem? (i := 0) rfl)))
  have k10 := C.2.2.2.2.1 (.fieldLink RX2 21 "PulpitRoads$Road" "at" "[I") (List.mem_cons_of_mem _ (List.mem_append_left _ (List.mem_of_getElem? (i := 9) rfl)))
  have k11 := C.2.2.2.2.1 (.fieldLink RX2 24 "PulpitRoads$Road" "word" "[I") (List.mem_cons_of_mem _ (List.mem_append_left _ (List.mem_of_getElem? (i := 10) rfl)))
  have k2 := C.2.2.2.2.1 (.fieldLink RX2 44 "PulpitRoads$Road" "words" "I") (List.mem_cons_of_mem _ (List.mem_append_left _ (List.mem_of_getElem? (i := 1) rfl)))
  have k3 := C.2.2.2.2.1 (.fieldLink RX2 47 "PulpitRoads$Road" "hard" "I") (List.mem_cons_of_mem _ (List.mem_append_left _ (List.mem_of_getElem? (i := 2) rfl)))
  have k4 := C.2.2.2.2.1 (.fieldLink RX2 34 "PulpitRoads$Road" "hour" "I") (List.mem_cons_of_mem _ (List.mem_append_left _ (List.mem_of_getElem? (i := 3) rfl)))
  have k5 := C.2.2.2.2.1 (.fieldLink RX2 38 "PulpitRoads$Road" "stretches" "I") (List.mem_cons_of_mem _ (List.mem_append_left _ (List.mem_of_getElem? (i := 4) rfl)))
  have k6 := C.2.2.2.2.1 (.fieldLink RX2 41 "PulpitRoads$Road" "pulpits" "I") (List.mem_cons_of_mem _ (List.mem_append_left _ (List.mem_of_getElem? (i := 5) rfl)))
  have k7 := C.2.2.2.2.1 (.fieldLink RX2 9 "PulpitRoads$Road" "grade" "[I") (List.mem_cons_of_mem _ (List.mem_append_left _ (List.mem_of_getElem? (i := 6) rfl)))
  have k8 := C.2.2.2.2.1 (.fieldLink RX2 15 "PulpitRoads$Road" "heardAt" "[I") (List.mem_cons_of_mem _ (List.mem_append_left _ (List.mem_of_getElem? (i := 7) rfl)))
  have k9 := C.2.2.2.2.1 (.fieldLink RX2 18 "PulpitRoads$Road" "kindOf" "[I") (List.mem_cons_of_mem _ (List.mem_append_left _ (List.mem_of_getElem? (i := 8) rfl)))
  unfold fn_X2_take at h
  refine pw_aload_n C dX2_take_0 rfl 0 rfl ?_
  refine pw_aload_n C dX2_take_1 rfl 1 rfl ?_
  refine pw_get (v := .int (μ o1 0)) C iX2 (pw_ltD ho1) (pw_shD ho1 _) rfl 0 (by decide) k1 rfl dX2_take_2 ?_
  obtain ⟨hz5, h⟩ := fn_bz_s h
  refine pw_put (host := "PulpitRoads") (ty := .boolean) C iX2 tyX2 tyX2_ok nmX2 (pw_ltD ho) (pw_shD ho _) rfl 0 (by decide) (pw_shD ho _) k1 rfl (by decide +kernel) (fn_bool hz5) (Nat.le_of_ble_eq_true rfl) dX2_take_5 ?_
  refine pw_aload_n C dX2_take_8 rfl 0 rfl ?_
  refine pw_aload_n C dX2_take_9 rfl 1 rfl ?_
  refine pw_get (v := .int ((pw_st μ o 0 (μ o1 0)) o1 1)) C iX2 (pw_ltD ho1) (pw_shD ho1 _) rfl 1 (by decide) k2 rfl dX2_take_10 ?_
  refine pw_put (host := "PulpitRoads") (ty := .int) C iX2 tyX2 tyX2_ok nmX2 (pw_ltD ho) (pw_shD ho _) rfl 1 (by decide) (pw_shD ho _) k2 rfl (by decide +kernel) (fn_int _) (Nat.le_of_ble_eq_true rfl) dX2_take_13 ?_
  refine pw_aload_n C dX2_take_16 rfl 0 rfl ?_
  refine pw_aload_n C dX2_take_17 rfl 1 rfl ?_
  refine pw_get (v := .int ((pw_st (pw_st μ o 0 (μ o1 0)) o 1 ((pw_st μ o 0 (μ o1 0)) o1 1)) o1 2)) C iX2 (pw_ltD ho1) (pw_shD ho1 _) rfl 2 (by decide) k3 rfl dX2_take_18 ?_
  refine pw_put (host := "PulpitRoads") (ty := .int) C iX2 tyX2 tyX2_ok nmX2 (pw_ltD ho) (pw_shD ho _) rfl 2 (by decide) (pw_shD ho _) k3 rfl (by decide +kernel) (fn_int _) (Nat.le_of_ble_eq_true rfl) dX2_take_21 ?_
  refine pw_aload_n C dX2_take_24 rfl 0 rfl ?_
  refine pw_aload_n C dX2_take_25 rfl 1 rfl ?_
  refine pw_get (v := .int ((pw_st (pw_st (pw_st μ o 0 (μ o1 0)) o 1 ((pw_st μ o 0 (μ o1 0)) o1 1)) o 2 ((pw_st (pw_st μ o 0 (μ o1 0)) o 1 ((pw_st μ o 0 (μ o1 0)) o1 1)) o1 2)) o1 3)) C iX2 (pw_ltD ho1) (pw_shD ho1 _) rfl 3 (by decide) k4 rfl dX2_take_26 ?_
  refine pw_put (host := "PulpitRoads") (ty := .int) C iX2 tyX2 tyX2_ok nmX2 (pw_ltD ho) (pw_shD ho _) rfl 3 (by decide) (pw_shD ho _) k4 rfl (by decide +kernel) (fn_int _) (Nat.le_of_ble_eq_true rfl) dX2_take_29 ?_
  refine pw_aload_n C dX2_take_32 rfl 0 rfl ?_
  refine pw_aload_n C dX2_take_33 rfl 1 rfl ?_
  refine pw_get (v := .int ((pw_st (pw_st (pw_st (pw_st μ o 0 (μ o1 0)) o 1 ((pw_st μ o 0 (μ o1 0)) o1 1)) o 2 ((pw_st (pw_st μ o 0 (μ o1 0)) o 1 ((pw_st μ o 0 (μ o1 0)) o1 1)) o1 2)) o 3 ((pw_st (pw_st (pw_st μ o 0 (μ o1 0)) o 1 ((pw_st μ o 0 (μ o1 0)) o1 1)) o 2 ((pw_st (pw_st μ o 0 (μ o1 0)) o 1 ((pw_st μ o 0 (μ o1 0)) o1 1)) o1 2)) o1 3)) o1 4)) C iX2 (pw_ltD ho1) (pw_shD ho1 _) rfl 4 (by decide) k5 rfl dX2_take_34 ?_
  refine pw_put (host := "PulpitRoads") (ty := .int) C iX2 tyX2 tyX2_ok nmX2 (pw_ltD ho) (pw_shD ho _) rfl 4 (by decide) (pw_shD ho _) k5 rfl (by decide +kernel) (fn_int _) (Nat.le_of_ble_eq_true rfl) dX2_take_37 ?_
  refine pw_aload_n C dX2_take_40 rfl 0 rfl ?_
  refine pw_aload_n C dX2_take_41 rfl 1 rfl ?_
  refine pw_get (v := .int ((pw_st (pw_st (pw_st (pw_st (pw_st μ o 0 (μ o1 0)) o 1 ((pw_st μ o 0 (μ o1 0)) o1 1)) o 2 ((pw_st (pw_st μ o 0 (μ o1 0)) o 1 ((pw_st μ o 0 (μ o1 0)) o1 1)) o1 2)) o 3 ((pw_st (pw_st (pw_st μ o 0 (μ o1 0)) o 1 ((pw_st μ o 0 (μ o1 0)) o1 1)) o 2 ((pw_st (pw_st μ o 0 (μ o1 0)) o 1 ((pw_st μ o 0 (μ o1 0)) o1 1)) o1 2)) o1 3)) o 4 ((pw_st (pw_st (pw_st (pw_st μ o 0 (μ o1 0)) o 1 ((pw_st μ o 0 (μ o1 0)) o1 1)) o 2 ((pw_st (pw_st μ o 0 (μ o1 0)) o 1 ((pw_st μ o 0 (μ o1 0)) o1 1)) o1 2)) o 3 ((pw_st (pw_st (pw_st μ o 0 (μ o1 0)) o 1 ((pw_st μ o 0 (μ o1 0)) o1 1)) o 2 ((pw_st (pw_st μ o 0 (μ o1 0)) o 1 ((pw_st μ o 0 (μ o1 0)) o1 1)) o1 2)) o1 3)) o1 4)) o1 5)) C iX2 (pw_ltD ho1) (pw_shD ho1 _) rfl 5 (by decide) k6 rfl dX2_take_42 ?_
  refine pw_put (host := "PulpitRoads") (ty := .int) C iX2 tyX2 tyX2_ok nmX2 (pw_ltD ho) (pw_shD ho _) rfl 5 (by decide) (pw_shD ho _) k6 rfl (by decide +kernel) (fn_int _) (Nat.le_of_ble_eq_true rfl) dX2_take_45 ?_
  refine pw_iconst (v := (0 : Int32)) C dX2_take_48 (by decide) ?_
  refine pw_istore_n (lv' := [(2, .int (0 : Int32)), (0, .ref (gad G o)), (1, .ref (gad G o1))]) C dX2_take_49 rfl (by decide) rfl ?_
  have L50 : ∀ (k : pw_Mem → Option (pw_Mem)) (hk : ∀  (m1 : pw_Mem), k m1 = some μ' → pw_Go p l e ({ frames := 0, cells := 0, slots := 0, locals := 0 }) s m (([.ref (gad G o), .ref (gad G o1)] : List Value).toArray) below meth c (MQ below (va_Qv (fun (u : pw_Mem) => u = μ') (pw_B G) (gA G)) (([.ref (gad G o), .ref (gad G o1)] : List Value).toArray) s 0 0 (gA G)) G 3 86 [(0, .ref (gad G o)), (1, .ref (gad G o1))] [] m1) (n : Nat) (v2 : Int32) (m1 : pw_Mem), fl_X2_take_50 k o o1 n v2 m1 = some μ' → pw_Go p l e ({ frames := 0, cells := 0, slots := 0, locals := 0 }) s m (([.ref (gad G o), .ref (gad G o1)] : List Value).toArray) below meth c (MQ below (va_Qv (fun (u : pw_Mem) => u = μ') (pw_B G) (gA G)) (([.ref (gad G o), .ref (gad G o1)] : List Value).toArray) s 0 0 (gA G)) G 3 50 [(0, .ref (gad G o)), (1, .ref (gad G o1)), (2, .int v2)] [] m1 := by
    intro k hk n
    induction n with
    | zero => intro v2 m1 h; exact nomatch (show (none : Option (pw_Mem)) = some _ from h)
    | succ n ih =>
      intro v2 m1 h
      rw [fl_X2_take_50] at h
      refine pw_iload_n C dX2_take_50 rfl 2 rfl ?_
      refine pw_bipush (v := (9 : Int32)) C dX2_take_51 (by decide) ?_
      refine pw_icmp_ge (tgt := 86) C dX2_take_53 (by decide) (fun c53 => ?_) (fun c53 => ?_)
      · have h := fn_pos c53 h
        refine pw_sub [0, 1] rfl ?_
        exact hk _ h
      · have h := fn_neg c53 h
        refine pw_aload_n C dX2_take_56 rfl 0 rfl ?_
        refine pw_get (v := .ref (gad G (o + 1))) C iX2 (pw_ltD ho) (pw_shD ho _) rfl 6 (by decide) k7 rfl dX2_take_57 ?_
        refine pw_iload_n C dX2_take_60 rfl 2 rfl ?_
        refine pw_aload_n C dX2_take_61 rfl 1 rfl ?_
        refine pw_get (v := .ref (gad G (o1 + 1))) C iX2 (pw_ltD ho1) (pw_shD ho1 _) rfl 6 (by decide) k7 rfl dX2_take_62 ?_
        refine pw_iload_n C dX2_take_65 rfl 2 rfl ?_
        obtain ⟨hi66, h⟩ := fn_ix_s h
        refine pw_iald C (pw_ltD6 ho1 1 (by decide)) ((pw_shD1 ho1) _) hi66 dX2_take_66 ?_
        obtain ⟨hi67, h⟩ := fn_ix_s h
        refine pw_iast C (pw_ltD6 ho 1 (by decide)) (pw_shD1 ho) hi67 dX2_take_67 ?_
        refine pw_aload_n C dX2_take_68 rfl 0 rfl ?_
        refine pw_get (v := .ref (gad G (o + 2))) C iX2 (pw_ltD ho) (pw_shD ho _) rfl 7 (by decide) k8 rfl dX2_take_69 ?_
        refine pw_iload_n C dX2_take_72 rfl 2 rfl ?_
        refine pw_aload_n C dX2_take_73 rfl 1 rfl ?_
        refine pw_get (v := .ref (gad G (o1 + 2))) C iX2 (pw_ltD ho1) (pw_shD ho1 _) rfl 7 (by decide) k8 rfl dX2_take_74 ?_
        refine pw_iload_n C dX2_take_77 rfl 2 rfl ?_
        obtain ⟨hi78, h⟩ := fn_ix_s h
        refine pw_iald C (pw_ltD6 ho1 2 (by decide)) ((pw_shD2 ho1) _) hi78 dX2_take_78 ?_
        obtain ⟨hi79, h⟩ := fn_ix_s h
        refine pw_iast C (pw_ltD6 ho 2 (by decide)) (pw_shD2 ho) hi79 dX2_take_79 ?_
        refine pw_iinc (v := (v2 + 1)) (lv' := [(2, .int (v2 + 1)), (0, .ref (gad G o)), (1, .ref (gad G o1))]) C dX2_take_80 (q := 2) rfl rfl (by decide) rfl ?_
        refine pw_goto (tgt := 50) C dX2_take_83 (by decide) ?_
        refine pw_sub [1, 2, 0] rfl ?_
        exact ih _ _ h
  refine pw_sub [1, 2, 0] rfl ?_
  refine L50 _ (fun m86 h => ?_) _ _ _ h
  refine pw_iconst (v := (0 : Int32)) C dX2_take_86 (by decide) ?_
  refine pw_istore_n (lv' := [(2, .int (0 : Int32)), (0, .ref (gad G o)), (1, .ref (gad G o1))]) C dX2_take_87 rfl (by decide) rfl ?_
  have L88 : ∀ (k : pw_Mem → Option (pw_Mem)) (hk : ∀  (m1 : pw_Mem), k m1 = some μ' → pw_Go p l e ({ frames := 0, cells := 0, slots := 0, locals := 0 }) s m (([.ref (gad G o), .ref (gad G o1)] : List Value).toArray) below meth c (MQ below (va_Qv (fun (u : pw_Mem) => u = μ') (pw_B G) (gA G)) (([.ref (gad G o), .ref (gad G o1)] : List Value).toArray) s 0 0 (gA G)) G 3 135 [] [] m1) (n : Nat) (v2 : Int32) (m1 : pw_Mem), fl_X2_take_88 k o o1 n v2 m1 = some μ' → pw_Go p l e ({ frames := 0, cells := 0, slots := 0, locals := 0 }) s m (([.ref (gad G o), .ref (gad G o1)] : List Value).toArray) below meth c (MQ below (va_Qv (fun (u : pw_Mem) => u = μ') (pw_B G) (gA G)) (([.ref (gad G o), .ref (gad G o1)] : List Value).toArray) s 0 0 (gA G)) G 3 88 [(0, .ref (gad G o)), (1, .ref (gad G o1)), (2, .int v2)] [] m1 := by
    intro k hk n
    induction n with
    | zero => intro v2 m1 h; exact nomatch (show (none : Option (pw_Mem)) = some _ from h)
    | succ n ih =>
      intro v2 m1 h
      rw [fl_X2_take_88] at h
      refine pw_iload_n C dX2_take_88 rfl 2 rfl ?_
      refine pw_iconst (v := (5 : Int32)) C dX2_take_89 (by decide) ?_
      refine pw_icmp_ge (tgt := 135) C dX2_take_90 (by decide) (fun c90 => ?_) (fun c90 => ?_)
      · have h := fn_pos c90 h
        refine pw_sub [] rfl ?_
        exact hk _ h
      · have h := fn_neg c90 h
        refine pw_aload_n C dX2_take_93 rfl 0 rfl ?_
        refine pw_get (v := .ref (gad G (o + 3))) C iX2 (pw_ltD ho) (pw_shD ho _) rfl 8 (by decide) k9 rfl dX2_take_94 ?_
        refine pw_iload_n C dX2_take_97 rfl 2 rfl ?_
        refine pw_aload_n C dX2_take_98 rfl 1 rfl ?_
        refine pw_get (v := .ref (gad G (o1 + 3))) C iX2 (pw_ltD ho1) (pw_shD ho1 _) rfl 8 (by decide) k9 rfl dX2_take_99 ?_
        refine pw_iload_n C dX2_take_102 rfl 2 rfl ?_
        obtain ⟨hi103, h⟩ := fn_ix_s h
        refine pw_iald C (pw_ltD6 ho1 3 (by decide)) ((pw_shD3 ho1) _) hi103 dX2_take_103 ?_
        obtain ⟨hi104, h⟩ := fn_ix_s h
        refine pw_iast C (pw_ltD6 ho 3 (by decide)) (pw_shD3 ho) hi104 dX2_take_104 ?_
        refine pw_aload_n C dX2_take_105 rfl 0 rfl ?_
        refine pw_get (v := .ref (gad G (o + 4))) C iX2 (pw_ltD ho) (pw_shD ho _) rfl 9 (by decide) k10 rfl dX2_take_106 ?_
        refine pw_iload_n C dX2_take_109 rfl 2 rfl ?_
        refine pw_aload_n C dX2_take_110 rfl 1 rfl ?_
        refine pw_get (v := .ref (gad G (o1 + 4))) C iX2 (pw_ltD ho1) (pw_shD ho1 _) rfl 9 (by decide) k10 rfl dX2_take_111 ?_
        refine pw_iload_n C dX2_take_114 rfl 2 rfl ?_
        obtain ⟨hi115, h⟩ := fn_ix_s h
        refine pw_iald C (pw_ltD6 ho1 4 (by decide)) ((pw_shD4 ho1) _) hi115 dX2_take_115 ?_
        obtain ⟨hi116, h⟩ := fn_ix_s h
        refine pw_iast C (pw_ltD6 ho 4 (by decide)) (pw_shD4 ho) hi116 dX2_take_116 ?_
        refine pw_aload_n C dX2_take_117 rfl 0 rfl ?_
        refine pw_get (v := .ref (gad G (o + 5))) C iX2 (pw_ltD ho) (pw_shD ho _) rfl 10 (by decide) k11 rfl dX2_take_118 ?_
        refine pw_iload_n C dX2_take_121 rfl 2 rfl ?_
        refine pw_aload_n C dX2_take_122 rfl 1 rfl ?_
        refine pw_get (v := .ref (gad G (o1 + 5))) C iX2 (pw_ltD ho1) (pw_shD ho1 _) rfl 10 (by decide) k11 rfl dX2_take_123 ?_
        refine pw_iload_n C dX2_take_126 rfl 2 rfl ?_
        obtain ⟨hi127, h⟩ := fn_ix_s h
        refine pw_iald C (pw_ltD6 ho1 5 (by decide)) ((pw_shD5 ho1) _) hi127 dX2_take_127 ?_
        obtain ⟨hi128, h⟩ := fn_ix_s h
        refine pw_iast C (pw_ltD6 ho 5 (by decide)) (pw_shD5 ho) hi128 dX2_take_128 ?_
        refine pw_iinc (v := (v2 + 1)) (lv' := [(2, .int (v2 + 1)), (0, .ref (gad G o)), (1, .ref (gad G o1))]) C dX2_take_129 (q := 2) rfl rfl (by decide) rfl ?_
        refine pw_goto (tgt := 88) C dX2_take_132 (by decide) ?_
        refine pw_sub [1, 2, 0] rfl ?_
        exact ih _ _ h
  refine pw_sub [1, 2, 0] rfl ?_
  refine L88 _ (fun m135 h => ?_) _ _ _ h
  exact pw_vret C h dX2_take_135
set_option maxHeartbeats 4000000 in
set_option maxRecDepth 100000 in
theorem ct_X2_nextOf (l : Launch) {G : pw_G} (hG : pw_Ok G) {o : Nat} {a1 : Int32} (ho : pw_KD o) {μ μ' : pw_Mem} {r : Int32} (h : fn_X2_nextOf o a1 μ = some (r, μ')) : Met l yX2_nextOf wsX2_nextOf ({ frames := 0, cells := 0, slots := 0, locals := 0 }) (va_Pc [.ref (gad G o), .int a1] (pw_Pre G μ)) (va_Qi (fun (r1 : Int32) (u : pw_Mem) => r1 = r ∧ u = μ') (pw_B G) (gA G)) 0 0 (gA G) := by
  refine pw_met (lv := [(0, .ref (gad G o)), (1, .int a1)]) (own := RX2) (cc := cX2_nextOf) (maxL := 2) (ret := some .int) hG rfl (by decide) rfl rfl (Nat.le_of_ble_eq_true rfl) ?_
  intro p e s m below meth c C
  have iX2 : ∀ w ∈ u_ws RX2 TX2 12, w ∈ wsX2_nextOf := fun _ h => List.mem_cons_of_mem _ (List.mem_append_right _ (h))
  have k1 := C.2.2.2.2.1 (.fieldLink RX2 38 "PulpitRoads$Road" "stretches" "I") (List.mem_cons_of_mem _ (List.mem_append_left _ (List.mem_of_getElem? (i := 0) rfl)))
  unfold fn_X2_nextOf at h
  refine pw_iload_n C dX2_nextOf_0 rfl 1 rfl ?_
  refine pw_iconst (v := (1 : Int32)) C dX2_nextOf_1 (by decide) ?_
  refine pw_iadd C dX2_nextOf_2 ?_
  refine pw_aload_n C dX2_nextOf_3 rfl 0 rfl ?_
  refine pw_get (v := .int (μ o 4)) C iX2 (pw_ltD ho) (pw_shD ho _) rfl 4 (by decide) k1 rfl dX2_nextOf_4 ?_
  refine pw_icmp_ge (tgt := 16) C dX2_nextOf_7 (by decide) (fun c7 => ?_) (fun c7 => ?_)
  · have h := fn_pos c7 h
    refine pw_iconst (v := (0 : Int32)) C dX2_nextOf_16 (by decide) ?_
    exact pw_iret C h dX2_nextOf_17
  · have h := fn_neg c7 h
    refine pw_iload_n C dX2_nextOf_10 rfl 1 rfl ?_
    refine pw_iconst (v := (1 : Int32)) C dX2_nextOf_11 (by decide) ?_
    refine pw_iadd C dX2_nextOf_12 ?_
    refine pw_goto (tgt := 17) C dX2_nextOf_13 (by decide) ?_
    exact pw_iret C h dX2_nextOf_17
set_option maxHeartbeats 4000000 in
set_option maxRecDepth 100000 in
theorem ct_X2_beforeOf (l : Launch) {G : pw_G} (hG : pw_Ok G) {o : Nat} {a1 : Int32} (ho : pw_KD o) {μ μ' : pw_Mem} {r : Int32} (h : fn_X2_beforeOf o a1 μ = some (r, μ')) : Met l yX2_beforeOf wsX2_beforeOf ({ frames := 0, cells := 0, slots := 0, locals := 0 }) (va_Pc [.ref (gad G o), .int a1] (pw_Pre G μ)) (va_Qi (fun (r1 : Int32) (u : pw_Mem) => r1 = r ∧ u = μ') (pw_B G) (gA G)) 0 0 (gA G) := by
  refine pw_met (lv := [(0, .ref (gad G o)), (1, .int a1)]) (own := RX2) (cc := cX2_beforeOf) (maxL := 2) (ret := some .int) hG rfl (by decide) rfl rfl (Nat.le_of_ble_eq_true rfl) ?_
  intro p e s m below meth c C
  have iX2 : ∀ w ∈ u_ws RX2 TX2 12, w ∈ wsX2_beforeOf := fun _ h => List.mem_cons_of_mem _ (List.mem_append_right _ (h))
  have k1 := C.2.2.2.2.1 (.fieldLink RX2 38 "PulpitRoads$Road" "stretches" "I") (List.mem_cons_of_mem _ (List.mem_append_left _ (List.mem_of_getElem? (i := 0) rfl)))
  unfold fn_X2_beforeOf at h
  refine pw_iload_n C dX2_beforeOf_0 rfl 1 rfl ?_
  refine pw_if_le (tgt := 10) C dX2_beforeOf_1 (by decide) (fun c1 => ?_) (fun c1 => ?_)
  · have h := fn_pos c1 h
    refine pw_aload_n C dX2_beforeOf_10 rfl 0 rfl ?_
    refine pw_get (v := .int (μ o 4)) C iX2 (pw_ltD ho) (pw_shD ho _) rfl 4 (by decide) k1 rfl dX2_beforeOf_11 ?_
    refine pw_iconst (v := (1 : Int32)) C dX2_beforeOf_14 (by decide) ?_
    refine pw_isub C dX2_beforeOf_15 ?_
    exact pw_iret C h dX2_beforeOf_16
  · have h := fn_neg c1 h
    refine pw_iload_n C dX2_beforeOf_4 rfl 1 rfl ?_
    refine pw_iconst (v := (1 : Int32)) C dX2_beforeOf_5 (by decide) ?_
    refine pw_isub C dX2_beforeOf_6 ?_
    refine pw_goto (tgt := 16) C dX2_beforeOf_7 (by decide) ?_
    exact pw_iret C h dX2_beforeOf_16
set_option maxHeartbeats 4000000 in
set_option maxRecDepth 100000 in
theorem ct_X2_allWords (l : Launch) {G : pw_G} (hG : pw_Ok G) {o : Nat} (ho : pw_KD o) {μ μ' : pw_Mem} {r : Int32} (h : fn_X2_allWords o μ = some (r, μ')) : Met l yX2_allWords wsX2_allWords ({ frames := 0, cells := 0, slots := 0, locals := 0 }) (va_Pc [.ref (gad G o)] (pw_Pre G μ)) (va_Qi (fun (r1 : Int32) (u : pw_Mem) => r1 = r ∧ u = μ') (pw_B G) (gA G)) 0 0 (gA G) := by
  refine pw_met (lv := [(0, .ref (gad G o))]) (own := RX2) (cc := cX2_allWords) (maxL := 1) (ret := some .int) hG rfl (by decide) rfl rfl (Nat.le_of_ble_eq_true rfl) ?_
  intro p e s m below meth c C
  have iX2 : ∀ w ∈ u_ws RX2 TX2 12, w ∈ wsX2_allWords := fun _ h => List.mem_cons_of_mem _ (List.mem_append_right _ (h))
  have k1 := C.2.2.2.2.1 (.fieldLink RX2 44 "PulpitRoads$Road" "words" "I") (List.mem_cons_of_mem _ (List.mem_append_left _ (List.mem_of_getElem? (i := 0) rfl)))
  unfold fn_X2_allWords at h
  refine pw_iconst (v := (1 : Int32)) C dX2_allWords_0 (by decide) ?_
  refine pw_aload_n C dX2_allWords_1 rfl 0 rfl ?_
  refine pw_get (v := .int (μ o 1)) C iX2 (pw_ltD ho) (pw_shD ho _) rfl 1 (by decide) k1 rfl dX2_allWords_2 ?_
  refine pw_ishl C dX2_allWords_5 ?_
  refine pw_iconst (v := (1 : Int32)) C dX2_allWords_6 (by decide) ?_
  refine pw_isub C dX2_allWords_7 ?_
  exact pw_iret C h dX2_allWords_8
set_option maxHeartbeats 4000000 in
set_option maxRecDepth 100000 in
theorem ct_X2_councils (l : Launch) {G : pw_G} (hG : pw_Ok G) {o : Nat} (ho : pw_KD o) {μ μ' : pw_Mem} {r : Int32} (h : fn_X2_councils o μ = some (r, μ')) : Met l yX2_councils wsX2_councils ({ frames := 0, cells := 0, slots := 0, locals := 0 }) (va_Pc [.ref (gad G o)] (pw_Pre G μ)) (va_Qi (fun (r1 : Int32) (u : pw_Mem) => r1 = r ∧ u = μ') (pw_B G) (gA G)) 0 0 (gA G) := by
  refine pw_met (lv := [(0, .ref (gad G o))]) (own := RX2) (cc := cX2_councils) (maxL := 4) (ret := some .int) hG rfl (by decide) rfl rfl (Nat.le_of_ble_eq_true rfl) ?_
  intro p e s m below meth c C
  have iX2 : ∀ w ∈ u_ws RX2 TX2 12, w ∈ wsX2_councils := fun _ h => List.mem_cons_of_mem _ (List.mem_append_right _ (h))
  have k1 := C.2.2.2.2.1 (.fieldLink RX2 41 "PulpitRoads$Road" "pulpits" "I") (List.mem_cons_of_mem _ (List.mem_append_left _ (List.mem_of_getElem? (i := 0) rfl)))
  have k2 := C.2.2.2.2.1 (.fieldLink RX2 21 "PulpitRoads$Road" "at" "[I") (List.mem_cons_of_mem _ (List.mem_append_left _ (List.mem_of_getElem? (i := 1) rfl)))
  unfold fn_X2_councils at h
  refine pw_iconst (v := (0 : Int32)) C dX2_councils_0 (by decide) ?_
  refine pw_istore_n (lv' := [(1, .int (0 : Int32)), (0, .ref (gad G o))]) C dX2_councils_1 rfl (by decide) rfl ?_
  refine pw_iconst (v := (0 : Int32)) C dX2_councils_2 (by decide) ?_
  refine pw_istore_n (lv' := [(2, .int (0 : Int32)), (1, .int (0 : Int32)), (0, .ref (gad G o))]) C dX2_councils_3 rfl (by decide) rfl ?_
  refine pw_iconst (v := (0 : Int32)) C dX2_councils_4 (by decide) ?_
  refine pw_istore_n (lv' := [(3, .int (0 : Int32)), (2, .int (0 : Int32)), (1, .int (0 : Int32)), (0, .ref (gad G o))]) C dX2_councils_5 rfl (by decide) rfl ?_
  have L6 : ∀ (k : Int32 → pw_Mem → Option (Int32 × pw_Mem)) (hk : ∀ (v2 : Int32) (m1 : pw_Mem), k v2 m1 = some (r, μ') → pw_Go p l e ({ frames := 0, cells := 0, slots := 0, locals := 0 }) s m (([.ref (gad G o)] : List Value).toArray) below meth c (MQ below (va_Qi (fun (r1 : Int32) (u : pw_Mem) => r1 = r ∧ u = μ') (pw_B G) (gA G)) (([.ref (gad G o)] : List Value).toArray) s 0 0 (gA G)) G 4 50 [(2, .int v2)] [] m1) (n : Nat) (v1 : Int32) (v2 : Int32) (v3 : Int32) (m1 : pw_Mem), fl_X2_councils_6 k o n v1 v2 v3 m1 = some (r, μ') → pw_Go p l e ({ frames := 0, cells := 0, slots := 0, locals := 0 }) s m (([.ref (gad G o)] : List Value).toArray) below meth c (MQ below (va_Qi (fun (r1 : Int32) (u : pw_Mem) => r1 = r ∧ u = μ') (pw_B G) (gA G)) (([.ref (gad G o)] : List Value).toArray) s 0 0 (gA G)) G 4 6 [(0, .ref (gad G o)), (1, .int v1), (2, .int v2), (3, .int v3)] [] m1 := by
    intro k hk n
    induction n with
    | zero => intro v1 v2 v3 m1 h; exact nomatch (show (none : Option (Int32 × pw_Mem)) = some _ from h)
    | succ n ih =>
      intro v1 v2 v3 m1 h
      rw [fl_X2_councils_6] at h
      refine pw_iload_n C dX2_councils_6 rfl 3 rfl ?_
      refine pw_aload_n C dX2_councils_7 rfl 0 rfl ?_
      refine pw_get (v := .int (m1 o 5)) C iX2 (pw_ltD ho) (pw_shD ho _) rfl 5 (by decide) k1 rfl dX2_councils_8 ?_
      refine pw_icmp_ge (tgt := 50) C dX2_councils_11 (by decide) (fun c11 => ?_) (fun c11 => ?_)
      · have h := fn_pos c11 h
        refine pw_sub [2] rfl ?_
        exact hk _ _ h
      · have h := fn_neg c11 h
        refine pw_iload_n C dX2_councils_14 rfl 1 rfl ?_
        refine pw_aload_n C dX2_councils_15 rfl 0 rfl ?_
        refine pw_get (v := .ref (gad G (o + 4))) C iX2 (pw_ltD ho) (pw_shD ho _) rfl 9 (by decide) k2 rfl dX2_councils_16 ?_
        refine pw_iload_n C dX2_councils_19 rfl 3 rfl ?_
        obtain ⟨hi20, h⟩ := fn_ix_s h
        refine pw_iald C (pw_ltD6 ho 4 (by decide)) ((pw_shD4 ho) _) hi20 dX2_councils_20 ?_
        refine pw_ishr C dX2_councils_21 ?_
        refine pw_iconst (v := (1 : Int32)) C dX2_councils_22 (by decide) ?_
        refine pw_iand C dX2_councils_23 ?_
        refine fn_jn1_s (fun x33_0 m33 => pw_Go p l e ({ frames := 0, cells := 0, slots := 0, locals := 0 }) s m (([.ref (gad G o)] : List Value).toArray) below meth c (MQ below (va_Qi (fun (r1 : Int32) (u : pw_Mem) => r1 = r ∧ u = μ') (pw_B G) (gA G)) (([.ref (gad G o)] : List Value).toArray) s 0 0 (gA G)) G 4 33 [(0, .ref (gad G o)), (1, .int v1), (2, .int x33_0), (3, .int v3)] [] m33) h (fun x33_0 m33 h => ?_) (fun k33 hk33 h => ?_)
        · refine pw_iload_n C dX2_councils_33 rfl 1 rfl ?_
          refine pw_iconst (v := (1 : Int32)) C dX2_councils_34 (by decide) ?_
          refine pw_aload_n C dX2_councils_35 rfl 0 rfl ?_
          refine pw_get (v := .ref (gad G (o + 4))) C iX2 (pw_ltD ho) (pw_shD ho _) rfl 9 (by decide) k2 rfl dX2_councils_36 ?_
          refine pw_iload_n C dX2_councils_39 rfl 3 rfl ?_
          obtain ⟨hi40, h⟩ := fn_ix_s h
          refine pw_iald C (pw_ltD6 ho 4 (by decide)) ((pw_shD4 ho) _) hi40 dX2_councils_40 ?_
          refine pw_ishl C dX2_councils_41 ?_
          refine pw_ior C dX2_councils_42 ?_
          refine pw_istore_n (lv' := [(1, .int (v1 ||| ((1 : Int32) <<< ((m33 (o + 4) (v3).toNatClampNeg) &&& 31)))), (0, .ref (gad G o)), (2, .int x33_0), (3, .int v3)]) C dX2_councils_43 rfl (by decide) rfl ?_
          refine pw_iinc (v := (v3 + 1)) (lv' := [(3, .int (v3 + 1)), (1, .int (v1 ||| ((1 : Int32) <<< ((m33 (o + 4) (v3).toNatClampNeg) &&& 31)))), (0, .ref (gad G o)), (2, .int x33_0)]) C dX2_councils_44 (q := 3) rfl rfl (by decide) rfl ?_
          refine pw_goto (tgt := 6) C dX2_councils_47 (by decide) ?_
          refine pw_sub [2, 1, 3, 0] rfl ?_
          exact ih _ _ _ _ h
        · refine pw_if_eq (tgt := 33) C dX2_councils_24 (by decide) (fun c24 => ?_) (fun c24 => ?_)
          · have h := fn_pos c24 h
            exact hk33 _ _ h
          · have h := fn_neg c24 h
            refine pw_iload_n C dX2_councils_27 rfl 2 rfl ?_
            refine pw_iconst (v := (1 : Int32)) C dX2_councils_28 (by decide) ?_
            refine pw_iload_n C dX2_councils_29 rfl 3 rfl ?_
            refine pw_ishl C dX2_councils_30 ?_
            refine pw_ior C dX2_councils_31 ?_
            refine pw_istore_n (lv' := [(2, .int (v2 ||| ((1 : Int32) <<< (v3 &&& 31)))), (0, .ref (gad G o)), (1, .int v1), (3, .int v3)]) C dX2_councils_32 rfl (by decide) rfl ?_
            refine pw_sub [1, 2, 0, 3] rfl ?_
            exact hk33 _ _ h
  refine pw_sub [3, 2, 1, 0] rfl ?_
  refine L6 _ (fun y6_2 m50 h => ?_) _ _ _ _ _ h
  refine pw_iload_n C dX2_councils_50 rfl 0 rfl ?_
  exact pw_iret C h dX2_councils_51
set_option maxHeartbeats 4000000 in
set_option maxRecDepth 100000 in
theorem ct_X2_wordAfter (l : Launch) {G : pw_G} (hG : pw_Ok G) {o : Nat} {a1 : Int32} {a2 : Int32} (ho : pw_KD o) {μ μ' : pw_Mem} {r : Int32} (h : fn_X2_wordAfter o a1 a2 μ = some (r, μ')) : Met l yX2_wordAfter wsX2_wordAfter ({ frames := 0, cells := 0, slots := 0, locals := 0 }) (va_Pc [.ref (gad G o), .int a1, .int a2] (pw_Pre G μ)) (va_Qi (fun (r1 : Int32) (u : pw_Mem) => r1 = r ∧ u = μ') (pw_B G) (gA G)) 0 0 (gA G) := by
  refine pw_met (lv := [(0, .ref (gad G o)), (1, .int a1), (2, .int a2)]) (own := RX2) (cc := cX2_wordAfter) (maxL := 3) (ret := some .int) hG rfl (by decide) rfl rfl (Nat.le_of_ble_eq_true rfl) ?_
  intro p e s m below meth c C
  have iX2 : ∀ w ∈ u_ws RX2 TX2 12, w ∈ wsX2_wordAfter := fun _ h => List.mem_cons_of_mem _ (List.mem_append_right _ (h))
  have k1 := C.2.2.2.2.1 (.fieldLink RX2 18 "PulpitRoads$Road" "kindOf" "[I") (List.mem_cons_of_mem _ (List.mem_append_left _ (List.mem_of_getElem? (i := 0) rfl)))
  have k2 := C.2.2.2.2.1 (.fieldLink RX2 44 "PulpitRoads$Road" "words" "I") (List.mem_cons_of_mem _ (List.mem_append_left _ (List.mem_of_getElem? (i := 1) rfl)))
  unfold fn_X2_wordAfter at h
  refine pw_aload_n C dX2_wordAfter_0 rfl 0 rfl ?_
  refine pw_get (v := .ref (gad G (o + 3))) C iX2 (pw_ltD ho) (pw_shD ho _) rfl 8 (by decide) k1 rfl dX2_wordAfter_1 ?_
  refine pw_iload_n C dX2_wordAfter_4 rfl 1 rfl ?_
  obtain ⟨hi5, h⟩ := fn_ix_s h
  refine pw_iald C (pw_ltD6 ho 3 (by decide)) ((pw_shD3 ho) _) hi5 dX2_wordAfter_5 ?_
  refine pw_iconst (v := (5 : Int32)) C dX2_wordAfter_6 (by decide) ?_
  refine pw_icmp_ne (tgt := 27) C dX2_wordAfter_7 (by decide) (fun c7 => ?_) (fun c7 => ?_)
  · have h := fn_pos c7 h
    refine pw_iload_n C dX2_wordAfter_27 rfl 2 rfl ?_
    refine pw_iconst (v := (1 : Int32)) C dX2_wordAfter_28 (by decide) ?_
    refine pw_iadd C dX2_wordAfter_29 ?_
    refine pw_aload_n C dX2_wordAfter_30 rfl 0 rfl ?_
    refine pw_get (v := .int (μ o 1)) C iX2 (pw_ltD ho) (pw_shD ho _) rfl 1 (by decide) k2 rfl dX2_wordAfter_31 ?_
    refine pw_icmp_ge (tgt := 43) C dX2_wordAfter_34 (by decide) (fun c34 => ?_) (fun c34 => ?_)
    · have h := fn_pos c34 h
      refine pw_iconst (v := (0 : Int32)) C dX2_wordAfter_43 (by decide) ?_
      exact pw_iret C h dX2_wordAfter_44
    · have h := fn_neg c34 h
      refine pw_iload_n C dX2_wordAfter_37 rfl 2 rfl ?_
      refine pw_iconst (v := (1 : Int32)) C dX2_wordAfter_38 (by decide) ?_
      refine pw_iadd C dX2_wordAfter_39 ?_
      refine pw_goto (tgt := 44) C dX2_wordAfter_40 (by decide) ?_
      exact pw_iret C h dX2_wordAfter_44
  · have h := fn_neg c7 h
    refine pw_iload_n C dX2_wordAfter_10 rfl 2 rfl ?_
    refine pw_if_le (tgt := 20) C dX2_wordAfter_11 (by decide) (fun c11 => ?_) (fun c11 => ?_)
    · have h := fn_pos c11 h
      refine pw_aload_n C dX2_wordAfter_20 rfl 0 rfl ?_
      refine pw_get (v := .int (μ o 1)) C iX2 (pw_ltD ho) (pw_shD ho _) rfl 1 (by decide) k2 rfl dX2_wordAfter_21 ?_
      refine pw_iconst (v := (1 : Int32)) C dX2_wordAfter_24 (by decide) ?_
      refine pw_isub C dX2_wordAfter_25 ?_
      exact pw_iret C h dX2_wordAfter_26
    · have h := fn_neg c11 h
      refine pw_iload_n C dX2_wordAfter_14 rfl 2 rfl ?_
      refine pw_iconst (v := (1 : Int32)) C dX2_wordAfter_15 (by decide) ?_
      refine pw_isub C dX2_wordAfter_16 ?_
      refine pw_goto (tgt := 26) C dX2_wordAfter_17 (by decide) ?_
      exact pw_iret C h dX2_wordAfter_26
set_option maxHeartbeats 4000000 in
set_option maxRecDepth 100000 in
theorem ct_X2_sayings (l : Launch) {G : pw_G} (hG : pw_Ok G) {o : Nat} {a1 : Int32} (ho : pw_KD o) {μ μ' : pw_Mem} {r : Int32} (h : fn_X2_sayings o a1 μ = some (r, μ')) : Met l yX2_sayings wsX2_sayings ({ frames := 1, cells := 0, slots := 0, locals := 22 }) (va_Pc [.ref (gad G o), .int a1] (pw_Pre G μ)) (va_Qi (fun (r1 : Int32) (u : pw_Mem) => r1 = r ∧ u = μ') (pw_B G) (gA G)) 0 0 (gA G) := by
  refine pw_met (lv := [(0, .ref (gad G o)), (1, .int a1)]) (own := RX2) (cc := cX2_sayings) (maxL := 5) (ret := some .int) hG rfl (by decide) rfl rfl (Nat.le_of_ble_eq_true rfl) ?_
  intro p e s m below meth c C
  have iX2 : ∀ w ∈ u_ws RX2 TX2 12, w ∈ wsX2_sayings := fun _ h => List.mem_cons_of_mem _ (List.mem_append_right _ (h))
  have k1 := C.2.2.2.2.1 (.fieldLink RX2 18 "PulpitRoads$Road" "kindOf" "[I") (List.mem_cons_of_mem _ (List.mem_append_left _ (List.mem_of_getElem? (i := 0) rfl)))
  have k2 := C.2.2.2.2.1 (.fieldLink RX2 24 "PulpitRoads$Road" "word" "[I") (List.mem_cons_of_mem _ (List.mem_append_left _ (List.mem_of_getElem? (i := 1) rfl)))
  have k3 := C.2.2.2.2.1 (.fieldLink RX2 9 "PulpitRoads$Road" "grade" "[I") (List.mem_cons_of_mem _ (List.mem_append_left _ (List.mem_of_getElem? (i := 2) rfl)))
  have k4 := C.2.2.2.2.1 (.fieldLink RX2 21 "PulpitRoads$Road" "at" "[I") (List.mem_cons_of_mem _ (List.mem_append_left _ (List.mem_of_getElem? (i := 3) rfl)))
  unfold fn_X2_sayings at h
  refine pw_aload_n C dX2_sayings_0 rfl 0 rfl ?_
  refine pw_get (v := .ref (gad G (o + 3))) C iX2 (pw_ltD ho) (pw_shD ho _) rfl 8 (by decide) k1 rfl dX2_sayings_1 ?_
  refine pw_iload_n C dX2_sayings_4 rfl 1 rfl ?_
  obtain ⟨hi5, h⟩ := fn_ix_s h
  refine pw_iald C (pw_ltD6 ho 3 (by decide)) ((pw_shD3 ho) _) hi5 dX2_sayings_5 ?_
  refine pw_iconst (v := (4 : Int32)) C dX2_sayings_6 (by decide) ?_
  refine pw_icmp_ne (tgt := 12) C dX2_sayings_7 (by decide) (fun c7 => ?_) (fun c7 => ?_)
  · have h := fn_pos c7 h
    refine pw_iconst (v := (0 : Int32)) C dX2_sayings_12 (by decide) ?_
    refine pw_istore_n (lv' := [(2, .int (0 : Int32)), (0, .ref (gad G o)), (1, .int a1)]) C dX2_sayings_13 rfl (by decide) rfl ?_
    refine pw_aload_n C dX2_sayings_14 rfl 1 rfl ?_
    refine pw_get (v := .ref (gad G (o + 5))) C iX2 (pw_ltD ho) (pw_shD ho _) rfl 10 (by decide) k2 rfl dX2_sayings_15 ?_
    refine pw_iload_n C dX2_sayings_18 rfl 2 rfl ?_
    obtain ⟨hi19, h⟩ := fn_ix_s h
    refine pw_iald C (pw_ltD6 ho 5 (by decide)) ((pw_shD5 ho) _) hi19 dX2_sayings_19 ?_
    refine pw_istore_n (lv' := [(3, .int (μ (o + 5) (a1).toNatClampNeg)), (2, .int (0 : Int32)), (0, .ref (gad G o)), (1, .int a1)]) C dX2_sayings_20 rfl (by decide) rfl ?_
    refine pw_iconst (v := (0 : Int32)) C dX2_sayings_21 (by decide) ?_
    refine pw_istore (lv' := [(4, .int (0 : Int32)), (3, .int (μ (o + 5) (a1).toNatClampNeg)), (2, .int (0 : Int32)), (0, .ref (gad G o)), (1, .int a1)]) C dX2_sayings_22 (by decide) rfl ?_
    have L24 : ∀ (k : Int32 → pw_Mem → Option (Int32 × pw_Mem)) (hk : ∀ (v2 : Int32) (m1 : pw_Mem), k v2 m1 = some (r, μ') → pw_Go p l e ({ frames := 1, cells := 0, slots := 0, locals := 22 }) s m (([.ref (gad G o), .int a1] : List Value).toArray) below meth c (MQ below (va_Qi (fun (r1 : Int32) (u : pw_Mem) => r1 = r ∧ u = μ') (pw_B G) (gA G)) (([.ref (gad G o), .int a1] : List Value).toArray) s 0 0 (gA G)) G 5 63 [(2, .int v2)] [] m1) (n : Nat) (v2 : Int32) (v3 : Int32) (v4 : Int32) (m1 : pw_Mem), fl_X2_sayings_24 k o a1 n v2 v3 v4 m1 = some (r, μ') → pw_Go p l e ({ frames := 1, cells := 0, slots := 0, locals := 22 }) s m (([.ref (gad G o), .int a1] : List Value).toArray) below meth c (MQ below (va_Qi (fun (r1 : Int32) (u : pw_Mem) => r1 = r ∧ u = μ') (pw_B G) (gA G)) (([.ref (gad G o), .int a1] : List Value).toArray) s 0 0 (gA G)) G 5 24 [(0, .ref (gad G o)), (1, .int a1), (2, .int v2), (3, .int v3), (4, .int v4)] [] m1 := by
      intro k hk n
      induction n with
      | zero => intro v2 v3 v4 m1 h; exact nomatch (show (none : Option (Int32 × pw_Mem)) = some _ from h)
      | succ n ih =>
        intro v2 v3 v4 m1 h
        rw [fl_X2_sayings_24] at h
        refine pw_iload C dX2_sayings_24 4 rfl ?_
        refine pw_getsN C 0 (by decide) 37 rfl dX2_sayings_26 ?_
        refine pw_aload_n C dX2_sayings_29 rfl 0 rfl ?_
        refine pw_get (v := .ref (gad G (o + 1))) C iX2 (pw_ltD ho) (pw_shD ho _) rfl 6 (by decide) k3 rfl dX2_sayings_30 ?_
        refine pw_aload_n C dX2_sayings_33 rfl 0 rfl ?_
        refine pw_get (v := .ref (gad G (o + 4))) C iX2 (pw_ltD ho) (pw_shD ho _) rfl 9 (by decide) k4 rfl dX2_sayings_34 ?_
        refine pw_iload_n C dX2_sayings_37 rfl 1 rfl ?_
        obtain ⟨hi38, h⟩ := fn_ix_s h
        refine pw_iald C (pw_ltD6 ho 4 (by decide)) ((pw_shD4 ho) _) hi38 dX2_sayings_38 ?_
        obtain ⟨hi39, h⟩ := fn_ix_s h
        refine pw_iald C (pw_ltD6 ho 1 (by decide)) ((pw_shD1 ho) _) hi39 dX2_sayings_39 ?_
        obtain ⟨hi40, h⟩ := fn_ix_s h
        refine pw_ti C 0 (by decide) hi40 dX2_sayings_40 ?_
        refine pw_icmp_ge (tgt := 63) C dX2_sayings_41 (by decide) (fun c41 => ?_) (fun c41 => ?_)
        · have h := fn_pos c41 h
          refine pw_sub [2] rfl ?_
          exact hk _ _ h
        · have h := fn_neg c41 h
          refine pw_iload_n C dX2_sayings_44 rfl 2 rfl ?_
          refine pw_iconst (v := (1 : Int32)) C dX2_sayings_45 (by decide) ?_
          refine pw_iload_n C dX2_sayings_46 rfl 3 rfl ?_
          refine pw_ishl C dX2_sayings_47 ?_
          refine pw_ior C dX2_sayings_48 ?_
          refine pw_istore_n (lv' := [(2, .int (v2 ||| ((1 : Int32) <<< (v3 &&& 31)))), (0, .ref (gad G o)), (1, .int a1), (3, .int v3), (4, .int v4)]) C dX2_sayings_49 rfl (by decide) rfl ?_
          refine pw_aload_n C dX2_sayings_50 rfl 1 rfl ?_
          refine pw_iload_n C dX2_sayings_51 rfl 2 rfl ?_
          refine pw_iload_n C dX2_sayings_52 rfl 3 rfl ?_
          obtain ⟨r53, m53, hc53, h⟩ := fn_bi_s h
          refine pw_callVi (rest := []) C (pw_ltD ho) (pw_shD ho _) rfl (ct_X2_wordAfter l C.2.2.2.2.2.2.2.2 ho hc53) (cwV 2 C.2.2.2.2.1 gX2_sayings_X2_wordAfter rfl rfl rfl (by decide +kernel) ⟨Nat.le_of_ble_eq_true rfl, Nat.le_of_ble_eq_true rfl⟩) rfl rfl (Nat.le_of_ble_eq_true rfl) dX2_sayings_53 ?_
          refine pw_istore_n (lv' := [(3, .int r53), (2, .int (v2 ||| ((1 : Int32) <<< (v3 &&& 31)))), (0, .ref (gad G o)), (1, .int a1), (4, .int v4)]) C dX2_sayings_56 rfl (by decide) rfl ?_
          refine pw_iinc (v := (v4 + 1)) (lv' := [(4, .int (v4 + 1)), (3, .int r53), (2, .int (v2 ||| ((1 : Int32) <<< (v3 &&& 31)))), (0, .ref (gad G o)), (1, .int a1)]) C dX2_sayings_57 (q := 4) rfl rfl (by decide) rfl ?_
          refine pw_goto (tgt := 24) C dX2_sayings_60 (by decide) ?_
          refine pw_sub [3, 4, 2, 1, 0] rfl ?_
          exact ih _ _ _ _ h
    refine pw_sub [3, 4, 2, 1, 0] rfl ?_
    refine L24 _ (fun y24_2 m63 h => ?_) _ _ _ _ _ h
    refine pw_iload_n C dX2_sayings_63 rfl 0 rfl ?_
    exact pw_iret C h dX2_sayings_64
  · have h := fn_neg c7 h
    refine pw_iconst (v := (0 : Int32)) C dX2_sayings_10 (by decide) ?_
    exact pw_iret C h dX2_sayings_11
set_option maxHeartbeats 4000000 in
set_option maxRecDepth 100000 in
theorem ct_X2_stretchBehind (l : Launch) {G : pw_G} (hG : pw_Ok G) {o : Nat} {a1 : Int32} {a2 : Int32} (ho : pw_KD o) {μ μ' : pw_Mem} {r : Int32} (h : fn_X2_stretchBehind o a1 a2 μ = some (r, μ')) : Met l yX2_stretchBehind wsX2_stretchBehind ({ frames := 1, cells := 0, slots := 0, locals := 21 }) (va_Pc [.ref (gad G o), .int a1, .int a2] (pw_Pre G μ)) (va_Qi (fun (r1 : Int32) (u : pw_Mem) => r1 = r ∧ u = μ') (pw_B G) (gA G)) 0 0 (gA G) := by
  refine pw_met (lv := [(0, .ref (gad G o)), (1, .int a1), (2, .int a2)]) (own := RX2) (cc := cX2_stretchBehind) (maxL := 4) (ret := some .int) hG rfl (by decide) rfl rfl (Nat.le_of_ble_eq_true rfl) ?_
  intro p e s m below meth c C
  have iX2 : ∀ w ∈ u_ws RX2 TX2 12, w ∈ wsX2_stretchBehind := fun _ h => List.mem_cons_of_mem _ (List.mem_append_right _ (h))
  have k1 := C.2.2.2.2.1 (.fieldLink RX2 18 "PulpitRoads$Road" "kindOf" "[I") (List.mem_cons_of_mem _ (List.mem_append_left _ (List.mem_of_getElem? (i := 0) rfl)))
  have k2 := C.2.2.2.2.1 (.fieldLink RX2 21 "PulpitRoads$Road" "at" "[I") (List.mem_cons_of_mem _ (List.mem_append_left _ (List.mem_of_getElem? (i := 1) rfl)))
  have k3 := C.2.2.2.2.1 (.fieldLink RX2 47 "PulpitRoads$Road" "hard" "I") (List.mem_cons_of_mem _ (List.mem_append_left _ (List.mem_of_getElem? (i := 2) rfl)))
  unfold fn_X2_stretchBehind at h
  refine pw_aload_n C dX2_stretchBehind_0 rfl 0 rfl ?_
  refine pw_get (v := .ref (gad G (o + 3))) C iX2 (pw_ltD ho) (pw_shD ho _) rfl 8 (by decide) k1 rfl dX2_stretchBehind_1 ?_
  refine pw_iload_n C dX2_stretchBehind_4 rfl 1 rfl ?_
  obtain ⟨hi5, h⟩ := fn_ix_s h
  refine pw_iald C (pw_ltD6 ho 3 (by decide)) ((pw_shD3 ho) _) hi5 dX2_stretchBehind_5 ?_
  refine pw_iconst (v := (2 : Int32)) C dX2_stretchBehind_6 (by decide) ?_
  refine pw_icmp_ne (tgt := 21) C dX2_stretchBehind_7 (by decide) (fun c7 => ?_) (fun c7 => ?_)
  · have h := fn_pos c7 h
    refine pw_aload_n C dX2_stretchBehind_21 rfl 0 rfl ?_
    refine pw_get (v := .ref (gad G (o + 3))) C iX2 (pw_ltD ho) (pw_shD ho _) rfl 8 (by decide) k1 rfl dX2_stretchBehind_22 ?_
    refine pw_iload_n C dX2_stretchBehind_25 rfl 1 rfl ?_
    obtain ⟨hi26, h⟩ := fn_ix_s h
    refine pw_iald C (pw_ltD6 ho 3 (by decide)) ((pw_shD3 ho) _) hi26 dX2_stretchBehind_26 ?_
    refine pw_iconst (v := (3 : Int32)) C dX2_stretchBehind_27 (by decide) ?_
    refine fn_jn1_s (fun x47_0 m47 => pw_Go p l e ({ frames := 1, cells := 0, slots := 0, locals := 21 }) s m (([.ref (gad G o), .int a1, .int a2] : List Value).toArray) below meth c (MQ below (va_Qi (fun (r1 : Int32) (u : pw_Mem) => r1 = r ∧ u = μ') (pw_B G) (gA G)) (([.ref (gad G o), .int a1, .int a2] : List Value).toArray) s 0 0 (gA G)) G 4 47 [(0, .ref (gad G o)), (1, .int a1)] [.int x47_0] m47) h (fun x47_0 m47 h => ?_) (fun k47 hk47 h => ?_)
    · refine pw_istore_n (lv' := [(3, .int x47_0), (0, .ref (gad G o)), (1, .int a1)]) C dX2_stretchBehind_47 rfl (by decide) rfl ?_
      refine pw_iload_n C dX2_stretchBehind_48 rfl 0 rfl ?_
      refine pw_if_eq (tgt := 61) C dX2_stretchBehind_49 (by decide) (fun c49 => ?_) (fun c49 => ?_)
      · have h := fn_pos c49 h
        refine pw_aload_n C dX2_stretchBehind_61 rfl 1 rfl ?_
        refine pw_aload_n C dX2_stretchBehind_62 rfl 1 rfl ?_
        refine pw_get (v := .ref (gad G (o + 4))) C iX2 (pw_ltD ho) (pw_shD ho _) rfl 9 (by decide) k2 rfl dX2_stretchBehind_63 ?_
        refine pw_iload_n C dX2_stretchBehind_66 rfl 2 rfl ?_
        obtain ⟨hi67, h⟩ := fn_ix_s h
        refine pw_iald C (pw_ltD6 ho 4 (by decide)) ((pw_shD4 ho) _) hi67 dX2_stretchBehind_67 ?_
        obtain ⟨r68, m68, hc68, h⟩ := fn_bi_s h
        refine pw_callVi (rest := []) C (pw_ltD ho) (pw_shD ho _) rfl (ct_X2_nextOf l C.2.2.2.2.2.2.2.2 ho hc68) (cwV 1 C.2.2.2.2.1 gX2_stretchBehind_X2_nextOf rfl rfl rfl (by decide +kernel) ⟨Nat.le_of_ble_eq_true rfl, Nat.le_of_ble_eq_true rfl⟩) rfl rfl (Nat.le_of_ble_eq_true rfl) dX2_stretchBehind_68 ?_
        exact pw_iret C h dX2_stretchBehind_71
      · have h := fn_neg c49 h
        refine pw_aload_n C dX2_stretchBehind_52 rfl 1 rfl ?_
        refine pw_get (v := .ref (gad G (o + 4))) C iX2 (pw_ltD ho) (pw_shD ho _) rfl 9 (by decide) k2 rfl dX2_stretchBehind_53 ?_
        refine pw_iload_n C dX2_stretchBehind_56 rfl 2 rfl ?_
        obtain ⟨hi57, h⟩ := fn_ix_s h
        refine pw_iald C (pw_ltD6 ho 4 (by decide)) ((pw_shD4 ho) _) hi57 dX2_stretchBehind_57 ?_
        refine pw_goto (tgt := 71) C dX2_stretchBehind_58 (by decide) ?_
        exact pw_iret C h dX2_stretchBehind_71
    · refine fn_jn0_s (fun m46 => pw_Go p l e ({ frames := 1, cells := 0, slots := 0, locals := 21 }) s m (([.ref (gad G o), .int a1, .int a2] : List Value).toArray) below meth c (MQ below (va_Qi (fun (r1 : Int32) (u : pw_Mem) => r1 = r ∧ u = μ') (pw_B G) (gA G)) (([.ref (gad G o), .int a1, .int a2] : List Value).toArray) s 0 0 (gA G)) G 4 46 [(0, .ref (gad G o)), (1, .int a1)] [] m46) h (fun m46 h => ?_) (fun k46 hk46 h => ?_)
      · refine pw_iconst (v := (0 : Int32)) C dX2_stretchBehind_46 (by decide) ?_
        exact hk47 _ _ h
      · refine pw_icmp_ne (tgt := 46) C dX2_stretchBehind_28 (by decide) (fun c28 => ?_) (fun c28 => ?_)
        · have h := fn_pos c28 h
          refine pw_sub [0, 1] rfl ?_
          exact hk46 _ h
        · have h := fn_neg c28 h
          refine pw_iload_n C dX2_stretchBehind_31 rfl 2 rfl ?_
          refine pw_aload_n C dX2_stretchBehind_32 rfl 0 rfl ?_
          refine pw_get (v := .int (μ o 2)) C iX2 (pw_ltD ho) (pw_shD ho _) rfl 2 (by decide) k3 rfl dX2_stretchBehind_33 ?_
          refine pw_ishr C dX2_stretchBehind_36 ?_
          refine pw_iconst (v := (1 : Int32)) C dX2_stretchBehind_37 (by decide) ?_
          refine pw_iand C dX2_stretchBehind_38 ?_
          refine pw_if_eq (tgt := 46) C dX2_stretchBehind_39 (by decide) (fun c39 => ?_) (fun c39 => ?_)
          · have h := fn_pos c39 h
            refine pw_sub [0, 1] rfl ?_
            exact hk46 _ h
          · have h := fn_neg c39 h
            refine pw_iconst (v := (1 : Int32)) C dX2_stretchBehind_42 (by decide) ?_
            refine pw_goto (tgt := 47) C dX2_stretchBehind_43 (by decide) ?_
            refine pw_sub [0, 1] rfl ?_
            exact hk47 _ _ h
  · have h := fn_neg c7 h
    refine pw_aload_n C dX2_stretchBehind_10 rfl 0 rfl ?_
    refine pw_aload_n C dX2_stretchBehind_11 rfl 0 rfl ?_
    refine pw_get (v := .ref (gad G (o + 4))) C iX2 (pw_ltD ho) (pw_shD ho _) rfl 9 (by decide) k2 rfl dX2_stretchBehind_12 ?_
    refine pw_iload_n C dX2_stretchBehind_15 rfl 1 rfl ?_
    obtain ⟨hi16, h⟩ := fn_ix_s h
    refine pw_iald C (pw_ltD6 ho 4 (by decide)) ((pw_shD4 ho) _) hi16 dX2_stretchBehind_16 ?_
    obtain ⟨r17, m17, hc17, h⟩ := fn_bi_s h
    refine pw_callVi (rest := []) C (pw_ltD ho) (pw_shD ho _) rfl (ct_X2_beforeOf l C.2.2.2.2.2.2.2.2 ho hc17) (cwV 1 C.2.2.2.2.1 gX2_stretchBehind_X2_beforeOf rfl rfl rfl (by decide +kernel) ⟨Nat.le_of_ble_eq_true rfl, Nat.le_of_ble_eq_true rfl⟩) rfl rfl (Nat.le_of_ble_eq_true rfl) dX2_stretchBehind_17 ?_
    exact pw_iret C h dX2_stretchBehind_20
set_option maxHeartbeats 4000000 in
set_option maxRecDepth 100000 in
theorem ct_X2_wordBehind (l : Launch) {G : pw_G} (hG : pw_Ok G) {o : Nat} {a1 : Int32} (ho : pw_KD o) {μ μ' : pw_Mem} {r : Int32} (h : fn_X2_wordBehind o a1 μ = some (r, μ')) : Met l yX2_wordBehind wsX2_wordBehind ({ frames := 1, cells := 0, slots := 0, locals := 22 }) (va_Pc [.ref (gad G o), .int a1] (pw_Pre G μ)) (va_Qi (fun (r1 : Int32) (u : pw_Mem) => r1 = r ∧ u = μ') (pw_B G) (gA G)) 0 0 (gA G) := by
  refine pw_met (lv := [(0, .ref (gad G o)), (1, .int a1)]) (own := RX2) (cc := cX2_wordBehind) (maxL := 4) (ret := some .int) hG rfl (by decide) rfl rfl (Nat.le_of_ble_eq_true rfl) ?_
  intro p e s m below meth c C
  have iX2 : ∀ w ∈ u_ws RX2 TX2 12, w ∈ wsX2_wordBehind := fun _ h => List.mem_cons_of_mem _ (List.mem_append_right _ (h))
  have k1 := C.2.2.2.2.1 (.fieldLink RX2 24 "PulpitRoads$Road" "word" "[I") (List.mem_cons_of_mem _ (List.mem_append_left _ (List.mem_of_getElem? (i := 0) rfl)))
  have k2 := C.2.2.2.2.1 (.fieldLink RX2 18 "PulpitRoads$Road" "kindOf" "[I") (List.mem_cons_of_mem _ (List.mem_append_left _ (List.mem_of_getElem? (i := 1) rfl)))
  have k3 := C.2.2.2.2.1 (.fieldLink RX2 9 "PulpitRoads$Road" "grade" "[I") (List.mem_cons_of_mem _ (List.mem_append_left _ (List.mem_of_getElem? (i := 2) rfl)))
  have k4 := C.2.2.2.2.1 (.fieldLink RX2 21 "PulpitRoads$Road" "at" "[I") (List.mem_cons_of_mem _ (List.mem_append_left _ (List.mem_of_getElem? (i := 3) rfl)))
  unfold fn_X2_wordBehind at h
  refine pw_aload_n C dX2_wordBehind_0 rfl 0 rfl ?_
  refine pw_get (v := .ref (gad G (o + 5))) C iX2 (pw_ltD ho) (pw_shD ho _) rfl 10 (by decide) k1 rfl dX2_wordBehind_1 ?_
  refine pw_iload_n C dX2_wordBehind_4 rfl 1 rfl ?_
  obtain ⟨hi5, h⟩ := fn_ix_s h
  refine pw_iald C (pw_ltD6 ho 5 (by decide)) ((pw_shD5 ho) _) hi5 dX2_wordBehind_5 ?_
  refine pw_istore_n (lv' := [(2, .int (μ (o + 5) (a1).toNatClampNeg)), (0, .ref (gad G o)), (1, .int a1)]) C dX2_wordBehind_6 rfl (by decide) rfl ?_
  refine pw_aload_n C dX2_wordBehind_7 rfl 1 rfl ?_
  refine pw_get (v := .ref (gad G (o + 3))) C iX2 (pw_ltD ho) (pw_shD ho _) rfl 8 (by decide) k2 rfl dX2_wordBehind_8 ?_
  refine pw_iload_n C dX2_wordBehind_11 rfl 2 rfl ?_
  obtain ⟨hi12, h⟩ := fn_ix_s h
  refine pw_iald C (pw_ltD6 ho 3 (by decide)) ((pw_shD3 ho) _) hi12 dX2_wordBehind_12 ?_
  refine pw_iconst (v := (4 : Int32)) C dX2_wordBehind_13 (by decide) ?_
  refine pw_icmp_eq (tgt := 51) C dX2_wordBehind_14 (by decide) (fun c14 => ?_) (fun c14 => ?_)
  · have h := fn_pos c14 h
    refine pw_iload_n C dX2_wordBehind_51 rfl 0 rfl ?_
    exact pw_iret C h dX2_wordBehind_52
  · have h := fn_neg c14 h
    refine pw_iconst (v := (0 : Int32)) C dX2_wordBehind_17 (by decide) ?_
    refine pw_istore_n (lv' := [(3, .int (0 : Int32)), (2, .int (μ (o + 5) (a1).toNatClampNeg)), (0, .ref (gad G o)), (1, .int a1)]) C dX2_wordBehind_18 rfl (by decide) rfl ?_
    have L19 : ∀ (k : Int32 → pw_Mem → Option (Int32 × pw_Mem)) (hk : ∀ (v2 : Int32) (m1 : pw_Mem), k v2 m1 = some (r, μ') → pw_Go p l e ({ frames := 1, cells := 0, slots := 0, locals := 22 }) s m (([.ref (gad G o), .int a1] : List Value).toArray) below meth c (MQ below (va_Qi (fun (r1 : Int32) (u : pw_Mem) => r1 = r ∧ u = μ') (pw_B G) (gA G)) (([.ref (gad G o), .int a1] : List Value).toArray) s 0 0 (gA G)) G 4 51 [(2, .int v2)] [] m1) (n : Nat) (v2 : Int32) (v3 : Int32) (m1 : pw_Mem), fl_X2_wordBehind_19 k o a1 n v2 v3 m1 = some (r, μ') → pw_Go p l e ({ frames := 1, cells := 0, slots := 0, locals := 22 }) s m (([.ref (gad G o), .int a1] : List Value).toArray) below meth c (MQ below (va_Qi (fun (r1 : Int32) (u : pw_Mem) => r1 = r ∧ u = μ') (pw_B G) (gA G)) (([.ref (gad G o), .int a1] : List Value).toArray) s 0 0 (gA G)) G 4 19 [(0, .ref (gad G o)), (1, .int a1), (2, .int v2), (3, .int v3)] [] m1 := by
      intro k hk n
      induction n with
      | zero => intro v2 v3 m1 h; exact nomatch (show (none : Option (Int32 × pw_Mem)) = some _ from h)
      | succ n ih =>
        intro v2 v3 m1 h
        rw [fl_X2_wordBehind_19] at h
        refine pw_iload_n C dX2_wordBehind_19 rfl 3 rfl ?_
        refine pw_getsN C 0 (by decide) 37 rfl dX2_wordBehind_20 ?_
        refine pw_aload_n C dX2_wordBehind_23 rfl 0 rfl ?_
        refine pw_get (v := .ref (gad G (o + 1))) C iX2 (pw_ltD ho) (pw_shD ho _) rfl 6 (by decide) k3 rfl dX2_wordBehind_24 ?_
        refine pw_aload_n C dX2_wordBehind_27 rfl 0 rfl ?_
        refine pw_get (v := .ref (gad G (o + 4))) C iX2 (pw_ltD ho) (pw_shD ho _) rfl 9 (by decide) k4 rfl dX2_wordBehind_28 ?_
        refine pw_iload_n C dX2_wordBehind_31 rfl 1 rfl ?_
        obtain ⟨hi32, h⟩ := fn_ix_s h
        refine pw_iald C (pw_ltD6 ho 4 (by decide)) ((pw_shD4 ho) _) hi32 dX2_wordBehind_32 ?_
        obtain ⟨hi33, h⟩ := fn_ix_s h
        refine pw_iald C (pw_ltD6 ho 1 (by decide)) ((pw_shD1 ho) _) hi33 dX2_wordBehind_33 ?_
        obtain ⟨hi34, h⟩ := fn_ix_s h
        refine pw_ti C 0 (by decide) hi34 dX2_wordBehind_34 ?_
        refine pw_icmp_ge (tgt := 51) C dX2_wordBehind_35 (by decide) (fun c35 => ?_) (fun c35 => ?_)
        · have h := fn_pos c35 h
          refine pw_sub [2] rfl ?_
          exact hk _ _ h
        · have h := fn_neg c35 h
          refine pw_aload_n C dX2_wordBehind_38 rfl 0 rfl ?_
          refine pw_iload_n C dX2_wordBehind_39 rfl 1 rfl ?_
          refine pw_iload_n C dX2_wordBehind_40 rfl 2 rfl ?_
          obtain ⟨r41, m41, hc41, h⟩ := fn_bi_s h
          refine pw_callVi (rest := []) C (pw_ltD ho) (pw_shD ho _) rfl (ct_X2_wordAfter l C.2.2.2.2.2.2.2.2 ho hc41) (cwV 2 C.2.2.2.2.1 gX2_wordBehind_X2_wordAfter rfl rfl rfl (by decide +kernel) ⟨Nat.le_of_ble_eq_true rfl, Nat.le_of_ble_eq_true rfl⟩) rfl rfl (Nat.le_of_ble_eq_true rfl) dX2_wordBehind_41 ?_
          refine pw_istore_n (lv' := [(2, .int r41), (0, .ref (gad G o)), (1, .int a1), (3, .int v3)]) C dX2_wordBehind_44 rfl (by decide) rfl ?_
          refine pw_iinc (v := (v3 + 1)) (lv' := [(3, .int (v3 + 1)), (2, .int r41), (0, .ref (gad G o)), (1, .int a1)]) C dX2_wordBehind_45 (q := 3) rfl rfl (by decide) rfl ?_
          refine pw_goto (tgt := 19) C dX2_wordBehind_48 (by decide) ?_
          refine pw_sub [2, 3, 1, 0] rfl ?_
          exact ih _ _ _ h
    refine pw_sub [2, 3, 1, 0] rfl ?_
    refine L19 _ (fun y19_2 m51 h => ?_) _ _ _ _ h
    refine pw_iload_n C dX2_wordBehind_51 rfl 0 rfl ?_
    exact pw_iret C h dX2_wordBehind_52
set_option maxHeartbeats 4000000 in
set_option maxRecDepth 100000 in
theorem ct_X2_pass (l : Launch) {G : pw_G} (hG : pw_Ok G) {o : Nat} {a1 : Int32} (ho : pw_KD o) {μ μ' : pw_Mem} (h : fn_X2_pass o a1 μ = some μ') : Met l yX2_pass wsX2_pass ({ frames := 2, cells := 0, slots := 0, locals := 46 }) (va_Pc [.ref (gad G o), .int a1] (pw_Pre G μ)) (va_Qv (fun (u : pw_Mem) => u = μ') (pw_B G) (gA G)) 0 0 (gA G) := by
  refine pw_met (lv := [(0, .ref (gad G o)), (1, .int a1)]) (own := RX2) (cc := cX2_pass) (maxL := 4) (ret := none) hG rfl (by decide) rfl rfl (Nat.le_of_ble_eq_true rfl) ?_
  intro p e s m below meth c C
  have iX2 : ∀ w ∈ u_ws RX2 TX2 12, w ∈ wsX2_pass := fun _ h => List.mem_cons_of_mem _ (List.mem_append_right _ (h))
  have k1 := C.2.2.2.2.1 (.fieldLink RX2 21 "PulpitRoads$Road" "at" "[I") (List.mem_cons_of_mem _ (List.mem_append_left _ (List.mem_append_left _ (List.mem_of_getElem? (i := 0) rfl))))
  have k2 := C.2.2.2.2.1 (.fieldLink RX2 27 "PulpitRoads$Road" "saidNow" "[I") (List.mem_cons_of_mem _ (List.mem_append_left _ (List.mem_append_left _ (List.mem_of_getElem? (i := 1) rfl))))
  have k3 := C.2.2.2.2.1 (.fieldLink RX2 15 "PulpitRoads$Road" "heardAt" "[I") (List.mem_cons_of_mem _ (List.mem_append_left _ (List.mem_append_left _ (List.mem_of_getElem? (i := 2) rfl))))
  have k4 := C.2.2.2.2.1 (.fieldLink RX2 24 "PulpitRoads$Road" "word" "[I") (List.mem_cons_of_mem _ (List.mem_append_left _ (List.mem_append_left _ (List.mem_of_getElem? (i := 3) rfl))))
  unfold fn_X2_pass at h
  refine pw_aload_n C dX2_pass_0 rfl 0 rfl ?_
  refine pw_get (v := .ref (gad G (o + 4))) C iX2 (pw_ltD ho) (pw_shD ho _) rfl 9 (by decide) k1 rfl dX2_pass_1 ?_
  refine pw_iload_n C dX2_pass_4 rfl 1 rfl ?_
  obtain ⟨hi5, h⟩ := fn_ix_s h
  refine pw_iald C (pw_ltD6 ho 4 (by decide)) ((pw_shD4 ho) _) hi5 dX2_pass_5 ?_
  refine pw_istore_n (lv' := [(2, .int (μ (o + 4) (a1).toNatClampNeg)), (0, .ref (gad G o)), (1, .int a1)]) C dX2_pass_6 rfl (by decide) rfl ?_
  refine pw_aload_n C dX2_pass_7 rfl 1 rfl ?_
  refine pw_iload_n C dX2_pass_8 rfl 2 rfl ?_
  obtain ⟨r9, m9, hc9, h⟩ := fn_bi_s h
  refine pw_callVi (rest := []) C (pw_ltD ho) (pw_shD ho _) rfl (ct_X2_sayings l C.2.2.2.2.2.2.2.2 ho hc9) (cwV 1 C.2.2.2.2.1 gX2_pass_X2_sayings rfl rfl rfl (by decide +kernel) ⟨Nat.le_of_ble_eq_true rfl, Nat.le_of_ble_eq_true rfl⟩) rfl rfl (Nat.le_of_ble_eq_true rfl) dX2_pass_9 ?_
  refine pw_istore_n (lv' := [(3, .int r9), (2, .int (μ (o + 4) (a1).toNatClampNeg)), (0, .ref (gad G o)), (1, .int a1)]) C dX2_pass_12 rfl (by decide) rfl ?_
  refine pw_aload_n C dX2_pass_13 rfl 2 rfl ?_
  refine pw_get (v := .ref (gad G (o + 6))) C iX2 (pw_ltD ho) (pw_shD ho _) rfl 11 (by decide) k2 rfl dX2_pass_14 ?_
  refine pw_iload_n C dX2_pass_17 rfl 1 rfl ?_
  refine pw_dup2 C dX2_pass_18 rfl rfl ?_
  obtain ⟨hi19, h⟩ := fn_ix_s h
  refine pw_iald C (pw_ltD6 ho 6 (by decide)) ((pw_shD6 ho) _) hi19 dX2_pass_19 ?_
  refine pw_iload_n C dX2_pass_20 rfl 0 rfl ?_
  refine pw_ior C dX2_pass_21 ?_
  obtain ⟨hi22, h⟩ := fn_ix_s h
  refine pw_iast C (pw_ltD6 ho 6 (by decide)) (pw_shD6 ho) hi22 dX2_pass_22 ?_
  refine pw_aload_n C dX2_pass_23 rfl 2 rfl ?_
  refine pw_get (v := .ref (gad G (o + 2))) C iX2 (pw_ltD ho) (pw_shD ho _) rfl 7 (by decide) k3 rfl dX2_pass_24 ?_
  refine pw_iload_n C dX2_pass_27 rfl 1 rfl ?_
  refine pw_dup2 C dX2_pass_28 rfl rfl ?_
  obtain ⟨hi29, h⟩ := fn_ix_s h
  refine pw_iald C (pw_ltD6 ho 2 (by decide)) ((pw_shD2 ho) _) hi29 dX2_pass_29 ?_
  refine pw_iload_n C dX2_pass_30 rfl 0 rfl ?_
  refine pw_ior C dX2_pass_31 ?_
  obtain ⟨hi32, h⟩ := fn_ix_s h
  refine pw_iast C (pw_ltD6 ho 2 (by decide)) (pw_shD2 ho) hi32 dX2_pass_32 ?_
  refine pw_aload_n C dX2_pass_33 rfl 2 rfl ?_
  refine pw_get (v := .ref (gad G (o + 5))) C iX2 (pw_ltD ho) (pw_shD ho _) rfl 10 (by decide) k4 rfl dX2_pass_34 ?_
  refine pw_iload_n C dX2_pass_37 rfl 3 rfl ?_
  refine pw_aload_n C dX2_pass_38 rfl 2 rfl ?_
  refine pw_iload_n C dX2_pass_39 rfl 3 rfl ?_
  obtain ⟨r40, m40, hc40, h⟩ := fn_bi_s h
  refine pw_callVi (rest := [.int a1, .ref (gad G (o + 5))]) C (pw_ltD ho) (pw_shD ho _) rfl (ct_X2_wordBehind l C.2.2.2.2.2.2.2.2 ho hc40) (cwV 1 C.2.2.2.2.1 gX2_pass_X2_wordBehind rfl rfl rfl (by decide +kernel) ⟨Nat.le_of_ble_eq_true rfl, Nat.le_of_ble_eq_true rfl⟩) rfl rfl (Nat.le_of_ble_eq_true rfl) dX2_pass_40 ?_
  obtain ⟨hi43, h⟩ := fn_ix_s h
  refine pw_iast C (pw_ltD6 ho 5 (by decide)) (pw_shD5 ho) hi43 dX2_pass_43 ?_
  refine pw_aload_n C dX2_pass_44 rfl 2 rfl ?_
  refine pw_get (v := .ref (gad G (o + 4))) C iX2 (pw_ltD ho) (pw_shD ho _) rfl 9 (by decide) k1 rfl dX2_pass_45 ?_
  refine pw_iload_n C dX2_pass_48 rfl 3 rfl ?_
  refine pw_aload_n C dX2_pass_49 rfl 2 rfl ?_
  refine pw_iload_n C dX2_pass_50 rfl 3 rfl ?_
  refine pw_iload_n C dX2_pass_51 rfl 0 rfl ?_
  obtain ⟨r52, m52, hc52, h⟩ := fn_bi_s h
  refine pw_callVi (rest := [.int a1, .ref (gad G (o + 4))]) C (pw_ltD ho) (pw_shD ho _) rfl (ct_X2_stretchBehind l C.2.2.2.2.2.2.2.2 ho hc52) (cwV 2 C.2.2.2.2.1 gX2_pass_X2_stretchBehind rfl rfl rfl (by decide +kernel) ⟨Nat.le_of_ble_eq_true rfl, Nat.le_of_ble_eq_true rfl⟩) rfl rfl (Nat.le_of_ble_eq_true rfl) dX2_pass_52 ?_
  obtain ⟨hi55, h⟩ := fn_ix_s h
  refine pw_iast C (pw_ltD6 ho 4 (by decide)) (pw_shD4 ho) hi55 dX2_pass_55 ?_
  exact pw_vret C h dX2_pass_56
set_option maxHeartbeats 4000000 in
set_option maxRecDepth 100000 in
theorem ct_X2_goHour (l : Launch) {G : pw_G} (hG : pw_Ok G) {o : Nat} (ho : pw_KD o) {μ μ' : pw_Mem} (h : fn_X2_goHour o μ = some μ') : Met l yX2_goHour wsX2_goHour ({ frames := 3, cells := 0, slots := 0, locals := 69 }) (va_Pc [.ref (gad G o)] (pw_Pre G μ)) (va_Qv (fun (u : pw_Mem) => u = μ') (pw_B G) (gA G)) 0 0 (gA G) := by
  refine pw_met (lv := [(0, .ref (gad G o))]) (own := RX2) (cc := cX2_goHour) (maxL := 3) (ret := none) hG rfl (by decide) rfl rfl (Nat.le_of_ble_eq_true rfl) ?_
  intro p e s m below meth c C
  have iX2 : ∀ w ∈ u_ws RX2 TX2 12, w ∈ wsX2_goHour := fun _ h => List.mem_cons_of_mem _ (List.mem_append_right _ (h))
  have k1 := C.2.2.2.2.1 (.fieldLink RX2 38 "PulpitRoads$Road" "stretches" "I") (List.mem_cons_of_mem _ (List.mem_append_left _ (List.mem_append_left _ (List.mem_of_getElem? (i := 0) rfl))))
  have k2 := C.2.2.2.2.1 (.fieldLink RX2 27 "PulpitRoads$Road" "saidNow" "[I") (List.mem_cons_of_mem _ (List.mem_append_left _ (List.mem_append_left _ (List.mem_of_getElem? (i := 1) rfl))))
  have k3 := C.2.2.2.2.1 (.fieldLink RX2 41 "PulpitRoads$Road" "pulpits" "I") (List.mem_cons_of_mem _ (List.mem_append_left _ (List.mem_append_left _ (List.mem_of_getElem? (i := 2) rfl))))
  have k4 := C.2.2.2.2.1 (.fieldLink RX2 34 "PulpitRoads$Road" "hour" "I") (List.mem_cons_of_mem _ (List.mem_append_left _ (List.mem_append_left _ (List.mem_of_getElem? (i := 3) rfl))))
  unfold fn_X2_goHour at h
  refine pw_aload_n C dX2_goHour_0 rfl 0 rfl ?_
  obtain ⟨r1, m1, hc1, h⟩ := fn_bi_s h
  refine pw_callVi (rest := []) C (pw_ltD ho) (pw_shD ho _) rfl (ct_X2_councils l C.2.2.2.2.2.2.2.2 ho hc1) (cwV 0 C.2.2.2.2.1 gX2_goHour_X2_councils rfl rfl rfl (by decide +kernel) ⟨Nat.le_of_ble_eq_true rfl, Nat.le_of_ble_eq_true rfl⟩) rfl rfl (Nat.le_of_ble_eq_true rfl) dX2_goHour_1 ?_
  refine pw_istore_n (lv' := [(1, .int r1), (0, .ref (gad G o))]) C dX2_goHour_4 rfl (by decide) rfl ?_
  refine pw_iconst (v := (0 : Int32)) C dX2_goHour_5 (by decide) ?_
  refine pw_istore_n (lv' := [(2, .int (0 : Int32)), (1, .int r1), (0, .ref (gad G o))]) C dX2_goHour_6 rfl (by decide) rfl ?_
  have L7 : ∀ (k : pw_Mem → Option (pw_Mem)) (hk : ∀  (m1 : pw_Mem), k m1 = some μ' → pw_Go p l e ({ frames := 3, cells := 0, slots := 0, locals := 69 }) s m (([.ref (gad G o)] : List Value).toArray) below meth c (MQ below (va_Qv (fun (u : pw_Mem) => u = μ') (pw_B G) (gA G)) (([.ref (gad G o)] : List Value).toArray) s 0 0 (gA G)) G 3 28 [(0, .ref (gad G o)), (1, .int r1)] [] m1) (n : Nat) (v2 : Int32) (m1 : pw_Mem), fl_X2_goHour_7 k o r1 n v2 m1 = some μ' → pw_Go p l e ({ frames := 3, cells := 0, slots := 0, locals := 69 }) s m (([.ref (gad G o)] : List Value).toArray) below meth c (MQ below (va_Qv (fun (u : pw_Mem) => u = μ') (pw_B G) (gA G)) (([.ref (gad G o)] : List Value).toArray) s 0 0 (gA G)) G 3 7 [(0, .ref (gad G o)), (1, .int r1), (2, .int v2)] [] m1 := by
    intro k hk n
    induction n with
    | zero => intro v2 m1 h; exact nomatch (show (none : Option (pw_Mem)) = some _ from h)
    | succ n ih =>
      intro v2 m1 h
      rw [fl_X2_goHour_7] at h
      refine pw_iload_n C dX2_goHour_7 rfl 2 rfl ?_
      refine pw_aload_n C dX2_goHour_8 rfl 0 rfl ?_
      refine pw_get (v := .int (m1 o 4)) C iX2 (pw_ltD ho) (pw_shD ho _) rfl 4 (by decide) k1 rfl dX2_goHour_9 ?_
      refine pw_icmp_ge (tgt := 28) C dX2_goHour_12 (by decide) (fun c12 => ?_) (fun c12 => ?_)
      · have h := fn_pos c12 h
        refine pw_sub [0, 1] rfl ?_
        exact hk _ h
      · have h := fn_neg c12 h
        refine pw_aload_n C dX2_goHour_15 rfl 0 rfl ?_
        refine pw_get (v := .ref (gad G (o + 6))) C iX2 (pw_ltD ho) (pw_shD ho _) rfl 11 (by decide) k2 rfl dX2_goHour_16 ?_
        refine pw_iload_n C dX2_goHour_19 rfl 2 rfl ?_
        refine pw_iconst (v := (0 : Int32)) C dX2_goHour_20 (by decide) ?_
        obtain ⟨hi21, h⟩ := fn_ix_s h
        refine pw_iast C (pw_ltD6 ho 6 (by decide)) (pw_shD6 ho) hi21 dX2_goHour_21 ?_
        refine pw_iinc (v := (v2 + 1)) (lv' := [(2, .int (v2 + 1)), (0, .ref (gad G o)), (1, .int r1)]) C dX2_goHour_22 (q := 2) rfl rfl (by decide) rfl ?_
        refine pw_goto (tgt := 7) C dX2_goHour_25 (by decide) ?_
        refine pw_sub [1, 2, 0] rfl ?_
        exact ih _ _ h
  refine pw_sub [2, 1, 0] rfl ?_
  refine L7 _ (fun m28 h => ?_) _ _ _ h
  refine pw_iconst (v := (0 : Int32)) C dX2_goHour_28 (by decide) ?_
  refine pw_istore_n (lv' := [(2, .int (0 : Int32)), (0, .ref (gad G o)), (1, .int r1)]) C dX2_goHour_29 rfl (by decide) rfl ?_
  have L30 : ∀ (k : pw_Mem → Option (pw_Mem)) (hk : ∀  (m1 : pw_Mem), k m1 = some μ' → pw_Go p l e ({ frames := 3, cells := 0, slots := 0, locals := 69 }) s m (([.ref (gad G o)] : List Value).toArray) below meth c (MQ below (va_Qv (fun (u : pw_Mem) => u = μ') (pw_B G) (gA G)) (([.ref (gad G o)] : List Value).toArray) s 0 0 (gA G)) G 3 57 [(0, .ref (gad G o))] [] m1) (n : Nat) (v2 : Int32) (m1 : pw_Mem), fl_X2_goHour_30 k o r1 n v2 m1 = some μ' → pw_Go p l e ({ frames := 3, cells := 0, slots := 0, locals := 69 }) s m (([.ref (gad G o)] : List Value).toArray) below meth c (MQ below (va_Qv (fun (u : pw_Mem) => u = μ') (pw_B G) (gA G)) (([.ref (gad G o)] : List Value).toArray) s 0 0 (gA G)) G 3 30 [(0, .ref (gad G o)), (1, .int r1), (2, .int v2)] [] m1 := by
    intro k hk n
    induction n with
    | zero => intro v2 m1 h; exact nomatch (show (none : Option (pw_Mem)) = some _ from h)
    | succ n ih =>
      intro v2 m1 h
      rw [fl_X2_goHour_30] at h
      refine pw_iload_n C dX2_goHour_30 rfl 2 rfl ?_
      refine pw_aload_n C dX2_goHour_31 rfl 0 rfl ?_
      refine pw_get (v := .int (m1 o 5)) C iX2 (pw_ltD ho) (pw_shD ho _) rfl 5 (by decide) k3 rfl dX2_goHour_32 ?_
      refine pw_icmp_ge (tgt := 57) C dX2_goHour_35 (by decide) (fun c35 => ?_) (fun c35 => ?_)
      · have h := fn_pos c35 h
        refine pw_sub [0] rfl ?_
        exact hk _ h
      · have h := fn_neg c35 h
        refine pw_iload_n C dX2_goHour_38 rfl 1 rfl ?_
        refine pw_iload_n C dX2_goHour_39 rfl 2 rfl ?_
        refine pw_ishr C dX2_goHour_40 ?_
        refine pw_iconst (v := (1 : Int32)) C dX2_goHour_41 (by decide) ?_
        refine pw_iand C dX2_goHour_42 ?_
        refine fn_jn0_s (fun m51 => pw_Go p l e ({ frames := 3, cells := 0, slots := 0, locals := 69 }) s m (([.ref (gad G o)] : List Value).toArray) below meth c (MQ below (va_Qv (fun (u : pw_Mem) => u = μ') (pw_B G) (gA G)) (([.ref (gad G o)] : List Value).toArray) s 0 0 (gA G)) G 3 51 [(0, .ref (gad G o)), (1, .int r1), (2, .int v2)] [] m51) h (fun m51 h => ?_) (fun k51 hk51 h => ?_)
        · refine pw_iinc (v := (v2 + 1)) (lv' := [(2, .int (v2 + 1)), (0, .ref (gad G o)), (1, .int r1)]) C dX2_goHour_51 (q := 2) rfl rfl (by decide) rfl ?_
          refine pw_goto (tgt := 30) C dX2_goHour_54 (by decide) ?_
          refine pw_sub [1, 2, 0] rfl ?_
          exact ih _ _ h
        · refine pw_if_ne (tgt := 51) C dX2_goHour_43 (by decide) (fun c43 => ?_) (fun c43 => ?_)
          · have h := fn_pos c43 h
            exact hk51 _ h
          · have h := fn_neg c43 h
            refine pw_aload_n C dX2_goHour_46 rfl 0 rfl ?_
            refine pw_iload_n C dX2_goHour_47 rfl 2 rfl ?_
            obtain ⟨m48, hc48, h⟩ := fn_bv_s h
            refine pw_callVv (rest := []) C (pw_ltD ho) (pw_shD ho _) rfl (ct_X2_pass l C.2.2.2.2.2.2.2.2 ho hc48) (cwV 1 C.2.2.2.2.1 gX2_goHour_X2_pass rfl rfl rfl (by decide +kernel) ⟨Nat.le_of_ble_eq_true rfl, Nat.le_of_ble_eq_true rfl⟩) rfl rfl (Nat.le_of_ble_eq_true rfl) dX2_goHour_48 ?_
            exact hk51 _ h
  refine pw_sub [1, 2, 0] rfl ?_
  refine L30 _ (fun m57 h => ?_) _ _ _ h
  refine pw_aload_n C dX2_goHour_57 rfl 0 rfl ?_
  refine pw_dup C dX2_goHour_58 rfl ?_
  refine pw_get (v := .int (m57 o 3)) C iX2 (pw_ltD ho) (pw_shD ho _) rfl 3 (by decide) k4 rfl dX2_goHour_59 ?_
  refine pw_iconst (v := (1 : Int32)) C dX2_goHour_62 (by decide) ?_
  refine pw_iadd C dX2_goHour_63 ?_
  refine pw_put (host := "PulpitRoads") (ty := .int) C iX2 tyX2 tyX2_ok nmX2 (pw_ltD ho) (pw_shD ho _) rfl 3 (by decide) (pw_shD ho _) k4 rfl (by decide +kernel) (fn_int _) (Nat.le_of_ble_eq_true rfl) dX2_goHour_64 ?_
  exact pw_vret C h dX2_goHour_67
set_option maxHeartbeats 4000000 in
set_option maxRecDepth 100000 in
theorem ct_X2_goHours (l : Launch) {G : pw_G} (hG : pw_Ok G) {o : Nat} {a1 : Int32} (ho : pw_KD o) {μ μ' : pw_Mem} (h : fn_X2_goHours o a1 μ = some μ') : Met l yX2_goHours wsX2_goHours ({ frames := 4, cells := 0, slots := 0, locals := 91 }) (va_Pc [.ref (gad G o), .int a1] (pw_Pre G μ)) (va_Qv (fun (u : pw_Mem) => u = μ') (pw_B G) (gA G)) 0 0 (gA G) := by
  refine pw_met (lv := [(0, .ref (gad G o)), (1, .int a1)]) (own := RX2) (cc := cX2_goHours) (maxL := 3) (ret := none) hG rfl (by decide) rfl rfl (Nat.le_of_ble_eq_true rfl) ?_
  intro p e s m below meth c C
  unfold fn_X2_goHours at h
  refine pw_iconst (v := (0 : Int32)) C dX2_goHours_0 (by decide) ?_
  refine pw_istore_n (lv' := [(2, .int (0 : Int32)), (0, .ref (gad G o)), (1, .int a1)]) C dX2_goHours_1 rfl (by decide) rfl ?_
  have L2 : ∀ (k : pw_Mem → Option (pw_Mem)) (hk : ∀  (m1 : pw_Mem), k m1 = some μ' → pw_Go p l e ({ frames := 4, cells := 0, slots := 0, locals := 91 }) s m (([.ref (gad G o), .int a1] : List Value).toArray) below meth c (MQ below (va_Qv (fun (u : pw_Mem) => u = μ') (pw_B G) (gA G)) (([.ref (gad G o), .int a1] : List Value).toArray) s 0 0 (gA G)) G 3 17 [] [] m1) (n : Nat) (v2 : Int32) (m1 : pw_Mem), fl_X2_goHours_2 k o a1 n v2 m1 = some μ' → pw_Go p l e ({ frames := 4, cells := 0, slots := 0, locals := 91 }) s m (([.ref (gad G o), .int a1] : List Value).toArray) below meth c (MQ below (va_Qv (fun (u : pw_Mem) => u = μ') (pw_B G) (gA G)) (([.ref (gad G o), .int a1] : List Value).toArray) s 0 0 (gA G)) G 3 2 [(0, .ref (gad G o)), (1, .int a1), (2, .int v2)] [] m1 := by
    intro k hk n
    induction n with
    | zero => intro v2 m1 h; exact nomatch (show (none : Option (pw_Mem)) = some _ from h)
    | succ n ih =>
      intro v2 m1 h
      rw [fl_X2_goHours_2] at h
      refine pw_iload_n C dX2_goHours_2 rfl 2 rfl ?_
      refine pw_iload_n C dX2_goHours_3 rfl 1 rfl ?_
      refine pw_icmp_ge (tgt := 17) C dX2_goHours_4 (by decide) (fun c4 => ?_) (fun c4 => ?_)
      · have h := fn_pos c4 h
        refine pw_sub [] rfl ?_
        exact hk _ h
      · have h := fn_neg c4 h
        refine pw_aload_n C dX2_goHours_7 rfl 0 rfl ?_
        obtain ⟨m8, hc8, h⟩ := fn_bv_s h
        refine pw_callVv (rest := []) C (pw_ltD ho) (pw_shD ho _) rfl (ct_X2_goHour l C.2.2.2.2.2.2.2.2 ho hc8) (cwV 0 C.2.2.2.2.1 gX2_goHours_X2_goHour rfl rfl rfl (by decide +kernel) ⟨Nat.le_of_ble_eq_true rfl, Nat.le_of_ble_eq_true rfl⟩) rfl rfl (Nat.le_of_ble_eq_true rfl) dX2_goHours_8 ?_
        refine pw_iinc (v := (v2 + 1)) (lv' := [(2, .int (v2 + 1)), (0, .ref (gad G o)), (1, .int a1)]) C dX2_goHours_11 (q := 2) rfl rfl (by decide) rfl ?_
        refine pw_goto (tgt := 2) C dX2_goHours_14 (by decide) ?_
        refine pw_sub [1, 2, 0] rfl ?_
        exact ih _ _ h
  refine pw_sub [1, 2, 0] rfl ?_
  refine L2 _ (fun m17 h => ?_) _ _ _ h
  exact pw_vret C h dX2_goHours_17
set_option maxHeartbeats 4000000 in
set_option maxRecDepth 100000 in
theorem ct_X2_pulpitsOn (l : Launch) {G : pw_G} (hG : pw_Ok G) {o : Nat} {a1 : Int32} (ho : pw_KD o) {μ μ' : pw_Mem} {r : Int32} (h : fn_X2_pulpitsOn o a1 μ = some (r, μ')) : Met l yX2_pulpitsOn wsX2_pulpitsOn ({ frames := 0, cells := 0, slots := 0, locals := 0 }) (va_Pc [.ref (gad G o), .int a1] (pw_Pre G μ)) (va_Qi (fun (r1 : Int32) (u : pw_Mem) => r1 = r ∧ u = μ') (pw_B G) (gA G)) 0 0 (gA G) := by
  refine pw_met (lv := [(0, .ref (gad G o)), (1, .int a1)]) (own := RX2) (cc := cX2_pulpitsOn) (maxL := 4) (ret := some .int) hG rfl (by decide) rfl rfl (Nat.le_of_ble_eq_true rfl) ?_
  intro p e s m below meth c C
  have iX2 : ∀ w ∈ u_ws RX2 TX2 12, w ∈ wsX2_pulpitsOn := fun _ h => List.mem_cons_of_mem _ (List.mem_append_right _ (h))
  have k1 := C.2.2.2.2.1 (.fieldLink RX2 41 "PulpitRoads$Road" "pulpits" "I") (List.mem_cons_of_mem _ (List.mem_append_left _ (List.mem_of_getElem? (i := 0) rfl)))
  have k2 := C.2.2.2.2.1 (.fieldLink RX2 21 "PulpitRoads$Road" "at" "[I") (List.mem_cons_of_mem _ (List.mem_append_left _ (List.mem_of_getElem? (i := 1) rfl)))
  unfold fn_X2_pulpitsOn at h
  refine pw_iconst (v := (0 : Int32)) C dX2_pulpitsOn_0 (by decide) ?_
  refine pw_istore_n (lv' := [(2, .int (0 : Int32)), (0, .ref (gad G o)), (1, .int a1)]) C dX2_pulpitsOn_1 rfl (by decide) rfl ?_
  refine pw_iconst (v := (0 : Int32)) C dX2_pulpitsOn_2 (by decide) ?_
  refine pw_istore_n (lv' := [(3, .int (0 : Int32)), (2, .int (0 : Int32)), (0, .ref (gad G o)), (1, .int a1)]) C dX2_pulpitsOn_3 rfl (by decide) rfl ?_
  have L4 : ∀ (k : Int32 → pw_Mem → Option (Int32 × pw_Mem)) (hk : ∀ (v2 : Int32) (m1 : pw_Mem), k v2 m1 = some (r, μ') → pw_Go p l e ({ frames := 0, cells := 0, slots := 0, locals := 0 }) s m (([.ref (gad G o), .int a1] : List Value).toArray) below meth c (MQ below (va_Qi (fun (r1 : Int32) (u : pw_Mem) => r1 = r ∧ u = μ') (pw_B G) (gA G)) (([.ref (gad G o), .int a1] : List Value).toArray) s 0 0 (gA G)) G 4 34 [(2, .int v2)] [] m1) (n : Nat) (v2 : Int32) (v3 : Int32) (m1 : pw_Mem), fl_X2_pulpitsOn_4 k o a1 n v2 v3 m1 = some (r, μ') → pw_Go p l e ({ frames := 0, cells := 0, slots := 0, locals := 0 }) s m (([.ref (gad G o), .int a1] : List Value).toArray) below meth c (MQ below (va_Qi (fun (r1 : Int32) (u : pw_Mem) => r1 = r ∧ u = μ') (pw_B G) (gA G)) (([.ref (gad G o), .int a1] : List Value).toArray) s 0 0 (gA G)) G 4 4 [(0, .ref (gad G o)), (1, .int a1), (2, .int v2), (3, .int v3)] [] m1 := by
    intro k hk n
    induction n with
    | zero => intro v2 v3 m1 h; exact nomatch (show (none : Option (Int32 × pw_Mem)) = some _ from h)
    | succ n ih =>
      intro v2 v3 m1 h
      rw [fl_X2_pulpitsOn_4] at h
      refine pw_iload_n C dX2_pulpitsOn_4 rfl 3 rfl ?_
      refine pw_aload_n C dX2_pulpitsOn_5 rfl 0 rfl ?_
      refine pw_get (v := .int (m1 o 5)) C iX2 (pw_ltD ho) (pw_shD ho _) rfl 5 (by decide) k1 rfl dX2_pulpitsOn_6 ?_
      refine pw_icmp_ge (tgt := 34) C dX2_pulpitsOn_9 (by decide) (fun c9 => ?_) (fun c9 => ?_)
      · have h := fn_pos c9 h
        refine pw_sub [2] rfl ?_
        exact hk _ _ h
      · have h := fn_neg c9 h
        refine pw_aload_n C dX2_pulpitsOn_12 rfl 0 rfl ?_
        refine pw_get (v := .ref (gad G (o + 4))) C iX2 (pw_ltD ho) (pw_shD ho _) rfl 9 (by decide) k2 rfl dX2_pulpitsOn_13 ?_
        refine pw_iload_n C dX2_pulpitsOn_16 rfl 3 rfl ?_
        obtain ⟨hi17, h⟩ := fn_ix_s h
        refine pw_iald C (pw_ltD6 ho 4 (by decide)) ((pw_shD4 ho) _) hi17 dX2_pulpitsOn_17 ?_
        refine pw_iload_n C dX2_pulpitsOn_18 rfl 1 rfl ?_
        refine fn_jn1_s (fun x28_0 m28 => pw_Go p l e ({ frames := 0, cells := 0, slots := 0, locals := 0 }) s m (([.ref (gad G o), .int a1] : List Value).toArray) below meth c (MQ below (va_Qi (fun (r1 : Int32) (u : pw_Mem) => r1 = r ∧ u = μ') (pw_B G) (gA G)) (([.ref (gad G o), .int a1] : List Value).toArray) s 0 0 (gA G)) G 4 28 [(0, .ref (gad G o)), (1, .int a1), (2, .int x28_0), (3, .int v3)] [] m28) h (fun x28_0 m28 h => ?_) (fun k28 hk28 h => ?_)
        · refine pw_iinc (v := (v3 + 1)) (lv' := [(3, .int (v3 + 1)), (0, .ref (gad G o)), (1, .int a1), (2, .int x28_0)]) C dX2_pulpitsOn_28 (q := 3) rfl rfl (by decide) rfl ?_
          refine pw_goto (tgt := 4) C dX2_pulpitsOn_31 (by decide) ?_
          refine pw_sub [1, 2, 3, 0] rfl ?_
          exact ih _ _ _ h
        · refine pw_icmp_ne (tgt := 28) C dX2_pulpitsOn_19 (by decide) (fun c19 => ?_) (fun c19 => ?_)
          · have h := fn_pos c19 h
            exact hk28 _ _ h
          · have h := fn_neg c19 h
            refine pw_iload_n C dX2_pulpitsOn_22 rfl 2 rfl ?_
            refine pw_iconst (v := (1 : Int32)) C dX2_pulpitsOn_23 (by decide) ?_
            refine pw_iload_n C dX2_pulpitsOn_24 rfl 3 rfl ?_
            refine pw_ishl C dX2_pulpitsOn_25 ?_
            refine pw_ior C dX2_pulpitsOn_26 ?_
            refine pw_istore_n (lv' := [(2, .int (v2 ||| ((1 : Int32) <<< (v3 &&& 31)))), (0, .ref (gad G o)), (1, .int a1), (3, .int v3)]) C dX2_pulpitsOn_27 rfl (by decide) rfl ?_
            refine pw_sub [1, 2, 0, 3] rfl ?_
            exact hk28 _ _ h
  refine pw_sub [2, 3, 1, 0] rfl ?_
  refine L4 _ (fun y4_2 m34 h => ?_) _ _ _ _ h
  refine pw_iload_n C dX2_pulpitsOn_34 rfl 0 rfl ?_
  exact pw_iret C h dX2_pulpitsOn_35
set_option maxHeartbeats 4000000 in
set_option maxRecDepth 100000 in
theorem ct_X2_hasPulpitsAs (l : Launch) {G : pw_G} (hG : pw_Ok G) {o : Nat} {o1 : Nat} (ho : pw_KD o) (ho1 : pw_KD o1) {μ μ' : pw_Mem} {r : Int32} (h : fn_X2_hasPulpitsAs o o1 μ = some (r, μ')) : Met l yX2_hasPulpitsAs wsX2_hasPulpitsAs ({ frames := 0, cells := 0, slots := 0, locals := 0 }) (va_Pc [.ref (gad G o), .ref (gad G o1)] (pw_Pre G μ)) (va_Qi (fun (r1 : Int32) (u : pw_Mem) => r1 = r ∧ u = μ') (pw_B G) (gA G)) 0 0 (gA G) := by
  refine pw_met (lv := [(0, .ref (gad G o)), (1, .ref (gad G o1))]) (own := RX2) (cc := cX2_hasPulpitsAs) (maxL := 3) (ret := some .boolean) hG rfl (by decide) rfl rfl (Nat.le_of_ble_eq_true rfl) ?_
  intro p e s m below meth c C
  have iX2 : ∀ w ∈ u_ws RX2 TX2 12, w ∈ wsX2_hasPulpitsAs := fun _ h => List.mem_cons_of_mem _ (List.mem_append_right _ (h))
  have k1 := C.2.2.2.2.1 (.fieldLink RX2 41 "PulpitRoads$Road" "pulpits" "I") (List.mem_cons_of_mem _ (List.mem_append_left _ (List.mem_of_getElem? (i := 0) rfl)))
  have k2 := C.2.2.2.2.1 (.fieldLink RX2 21 "PulpitRoads$Road" "at" "[I") (List.mem_cons_of_mem _ (List.mem_append_left _ (List.mem_of_getElem? (i := 1) rfl)))
  have k3 := C.2.2.2.2.1 (.fieldLink RX2 24 "PulpitRoads$Road" "word" "[I") (List.mem_cons_of_mem _ (List.mem_append_left _ (List.mem_of_getElem? (i := 2) rfl)))
  unfold fn_X2_hasPulpitsAs at h
  refine pw_iconst (v := (0 : Int32)) C dX2_hasPulpitsAs_0 (by decide) ?_
  refine pw_istore_n (lv' := [(2, .int (0 : Int32)), (0, .ref (gad G o)), (1, .ref (gad G o1))]) C dX2_hasPulpitsAs_1 rfl (by decide) rfl ?_
  have L2 : ∀ (k : pw_Mem → Option (Int32 × pw_Mem)) (hk : ∀  (m1 : pw_Mem), k m1 = some (r, μ') → pw_Go p l e ({ frames := 0, cells := 0, slots := 0, locals := 0 }) s m (([.ref (gad G o), .ref (gad G o1)] : List Value).toArray) below meth c (MQ below (va_Qi (fun (r1 : Int32) (u : pw_Mem) => r1 = r ∧ u = μ') (pw_B G) (gA G)) (([.ref (gad G o), .ref (gad G o1)] : List Value).toArray) s 0 0 (gA G)) G 3 48 [] [] m1) (n : Nat) (v2 : Int32) (m1 : pw_Mem), fl_X2_hasPulpitsAs_2 k o o1 n v2 m1 = some (r, μ') → pw_Go p l e ({ frames := 0, cells := 0, slots := 0, locals := 0 }) s m (([.ref (gad G o), .ref (gad G o1)] : List Value).toArray) below meth c (MQ below (va_Qi (fun (r1 : Int32) (u : pw_Mem) => r1 = r ∧ u = μ') (pw_B G) (gA G)) (([.ref (gad G o), .ref (gad G o1)] : List Value).toArray) s 0 0 (gA G)) G 3 2 [(0, .ref (gad G o)), (1, .ref (gad G o1)), (2, .int v2)] [] m1 := by
    intro k hk n
    induction n with
    | zero => intro v2 m1 h; exact nomatch (show (none : Option (Int32 × pw_Mem)) = some _ from h)
    | succ n ih =>
      intro v2 m1 h
      rw [fl_X2_hasPulpitsAs_2] at h
      refine pw_iload_n C dX2_hasPulpitsAs_2 rfl 2 rfl ?_
      refine pw_aload_n C dX2_hasPulpitsAs_3 rfl 0 rfl ?_
      refine pw_get (v := .int (m1 o 5)) C iX2 (pw_ltD ho) (pw_shD ho _) rfl 5 (by decide) k1 rfl dX2_hasPulpitsAs_4 ?_
      refine pw_icmp_ge (tgt := 48) C dX2_hasPulpitsAs_7 (by decide) (fun c7 => ?_) (fun c7 => ?_)
      · have h := fn_pos c7 h
        refine pw_sub [] rfl ?_
        exact hk _ h
      · have h := fn_neg c7 h
        refine pw_aload_n C dX2_hasPulpitsAs_10 rfl 0 rfl ?_
        refine pw_get (v := .ref (gad G (o + 4))) C iX2 (pw_ltD ho) (pw_shD ho _) rfl 9 (by decide) k2 rfl dX2_hasPulpitsAs_11 ?_
        refine pw_iload_n C dX2_hasPulpitsAs_14 rfl 2 rfl ?_
        obtain ⟨hi15, h⟩ := fn_ix_s h
        refine pw_iald C (pw_ltD6 ho 4 (by decide)) ((pw_shD4 ho) _) hi15 dX2_hasPulpitsAs_15 ?_
        refine pw_aload_n C dX2_hasPulpitsAs_16 rfl 1 rfl ?_
        refine pw_get (v := .ref (gad G (o1 + 4))) C iX2 (pw_ltD ho1) (pw_shD ho1 _) rfl 9 (by decide) k2 rfl dX2_hasPulpitsAs_17 ?_
        refine pw_iload_n C dX2_hasPulpitsAs_20 rfl 2 rfl ?_
        obtain ⟨hi21, h⟩ := fn_ix_s h
        refine pw_iald C (pw_ltD6 ho1 4 (by decide)) ((pw_shD4 ho1) _) hi21 dX2_hasPulpitsAs_21 ?_
        refine pw_icmp_ne (tgt := 40) C dX2_hasPulpitsAs_22 (by decide) (fun c22 => ?_) (fun c22 => ?_)
        · have h := fn_pos c22 h
          refine pw_iconst (v := (0 : Int32)) C dX2_hasPulpitsAs_40 (by decide) ?_
          obtain ⟨hz41, h⟩ := fn_bz_s h
          exact pw_zret C hz41 h dX2_hasPulpitsAs_41
        · have h := fn_neg c22 h
          refine pw_aload_n C dX2_hasPulpitsAs_25 rfl 0 rfl ?_
          refine pw_get (v := .ref (gad G (o + 5))) C iX2 (pw_ltD ho) (pw_shD ho _) rfl 10 (by decide) k3 rfl dX2_hasPulpitsAs_26 ?_
          refine pw_iload_n C dX2_hasPulpitsAs_29 rfl 2 rfl ?_
          obtain ⟨hi30, h⟩ := fn_ix_s h
          refine pw_iald C (pw_ltD6 ho 5 (by decide)) ((pw_shD5 ho) _) hi30 dX2_hasPulpitsAs_30 ?_
          refine pw_aload_n C dX2_hasPulpitsAs_31 rfl 1 rfl ?_
          refine pw_get (v := .ref (gad G (o1 + 5))) C iX2 (pw_ltD ho1) (pw_shD ho1 _) rfl 10 (by decide) k3 rfl dX2_hasPulpitsAs_32 ?_
          refine pw_iload_n C dX2_hasPulpitsAs_35 rfl 2 rfl ?_
          obtain ⟨hi36, h⟩ := fn_ix_s h
          refine pw_iald C (pw_ltD6 ho1 5 (by decide)) ((pw_shD5 ho1) _) hi36 dX2_hasPulpitsAs_36 ?_
          refine pw_icmp_eq (tgt := 42) C dX2_hasPulpitsAs_37 (by decide) (fun c37 => ?_) (fun c37 => ?_)
          · have h := fn_pos c37 h
            refine pw_iinc (v := (v2 + 1)) (lv' := [(2, .int (v2 + 1)), (0, .ref (gad G o)), (1, .ref (gad G o1))]) C dX2_hasPulpitsAs_42 (q := 2) rfl rfl (by decide) rfl ?_
            refine pw_goto (tgt := 2) C dX2_hasPulpitsAs_45 (by decide) ?_
            refine pw_sub [1, 2, 0] rfl ?_
            exact ih _ _ h
          · have h := fn_neg c37 h
            refine pw_iconst (v := (0 : Int32)) C dX2_hasPulpitsAs_40 (by decide) ?_
            obtain ⟨hz41, h⟩ := fn_bz_s h
            exact pw_zret C hz41 h dX2_hasPulpitsAs_41
  refine pw_sub [1, 2, 0] rfl ?_
  refine L2 _ (fun m48 h => ?_) _ _ _ h
  refine pw_iconst (v := (1 : Int32)) C dX2_hasPulpitsAs_48 (by decide) ?_
  obtain ⟨hz49, h⟩ := fn_bz_s h
  exact pw_zret C hz49 h dX2_hasPulpitsAs_49
set_option maxHeartbeats 4000000 in
set_option maxRecDepth 100000 in
theorem ct_X2_wholeGates (l : Launch) {G : pw_G} (hG : pw_Ok G) {o : Nat} (ho : pw_KD o) {μ μ' : pw_Mem} {r : Int32} (h : fn_X2_wholeGates o μ = some (r, μ')) : Met l yX2_wholeGates wsX2_wholeGates ({ frames := 1, cells := 0, slots := 0, locals := 20 }) (va_Pc [.ref (gad G o)] (pw_Pre G μ)) (va_Qi (fun (r1 : Int32) (u : pw_Mem) => r1 = r ∧ u = μ') (pw_B G) (gA G)) 0 0 (gA G) := by
  refine pw_met (lv := [(0, .ref (gad G o))]) (own := RX2) (cc := cX2_wholeGates) (maxL := 3) (ret := some .int) hG rfl (by decide) rfl rfl (Nat.le_of_ble_eq_true rfl) ?_
  intro p e s m below meth c C
  have iX2 : ∀ w ∈ u_ws RX2 TX2 12, w ∈ wsX2_wholeGates := fun _ h => List.mem_cons_of_mem _ (List.mem_append_right _ (h))
  have k1 := C.2.2.2.2.1 (.fieldLink RX2 38 "PulpitRoads$Road" "stretches" "I") (List.mem_cons_of_mem _ (List.mem_append_left _ (List.mem_of_getElem? (i := 0) rfl)))
  have k2 := C.2.2.2.2.1 (.fieldLink RX2 15 "PulpitRoads$Road" "heardAt" "[I") (List.mem_cons_of_mem _ (List.mem_append_left _ (List.mem_of_getElem? (i := 1) rfl)))
  unfold fn_X2_wholeGates at h
  refine pw_iconst (v := (0 : Int32)) C dX2_wholeGates_0 (by decide) ?_
  refine pw_istore_n (lv' := [(1, .int (0 : Int32)), (0, .ref (gad G o))]) C dX2_wholeGates_1 rfl (by decide) rfl ?_
  refine pw_iconst (v := (0 : Int32)) C dX2_wholeGates_2 (by decide) ?_
  refine pw_istore_n (lv' := [(2, .int (0 : Int32)), (1, .int (0 : Int32)), (0, .ref (gad G o))]) C dX2_wholeGates_3 rfl (by decide) rfl ?_
  have L4 : ∀ (k : Int32 → pw_Mem → Option (Int32 × pw_Mem)) (hk : ∀ (v1 : Int32) (m1 : pw_Mem), k v1 m1 = some (r, μ') → pw_Go p l e ({ frames := 1, cells := 0, slots := 0, locals := 20 }) s m (([.ref (gad G o)] : List Value).toArray) below meth c (MQ below (va_Qi (fun (r1 : Int32) (u : pw_Mem) => r1 = r ∧ u = μ') (pw_B G) (gA G)) (([.ref (gad G o)] : List Value).toArray) s 0 0 (gA G)) G 3 37 [(1, .int v1)] [] m1) (n : Nat) (v1 : Int32) (v2 : Int32) (m1 : pw_Mem), fl_X2_wholeGates_4 k o n v1 v2 m1 = some (r, μ') → pw_Go p l e ({ frames := 1, cells := 0, slots := 0, locals := 20 }) s m (([.ref (gad G o)] : List Value).toArray) below meth c (MQ below (va_Qi (fun (r1 : Int32) (u : pw_Mem) => r1 = r ∧ u = μ') (pw_B G) (gA G)) (([.ref (gad G o)] : List Value).toArray) s 0 0 (gA G)) G 3 4 [(0, .ref (gad G o)), (1, .int v1), (2, .int v2)] [] m1 := by
    intro k hk n
    induction n with
    | zero => intro v1 v2 m1 h; exact nomatch (show (none : Option (Int32 × pw_Mem)) = some _ from h)
    | succ n ih =>
      intro v1 v2 m1 h
      rw [fl_X2_wholeGates_4] at h
      refine pw_iload_n C dX2_wholeGates_4 rfl 2 rfl ?_
      refine pw_aload_n C dX2_wholeGates_5 rfl 0 rfl ?_
      refine pw_get (v := .int (m1 o 4)) C iX2 (pw_ltD ho) (pw_shD ho _) rfl 4 (by decide) k1 rfl dX2_wholeGates_6 ?_
      refine pw_icmp_ge (tgt := 37) C dX2_wholeGates_9 (by decide) (fun c9 => ?_) (fun c9 => ?_)
      · have h := fn_pos c9 h
        refine pw_sub [1] rfl ?_
        exact hk _ _ h
      · have h := fn_neg c9 h
        refine pw_aload_n C dX2_wholeGates_12 rfl 0 rfl ?_
        refine pw_get (v := .ref (gad G (o + 2))) C iX2 (pw_ltD ho) (pw_shD ho _) rfl 7 (by decide) k2 rfl dX2_wholeGates_13 ?_
        refine pw_iload_n C dX2_wholeGates_16 rfl 2 rfl ?_
        obtain ⟨hi17, h⟩ := fn_ix_s h
        refine pw_iald C (pw_ltD6 ho 2 (by decide)) ((pw_shD2 ho) _) hi17 dX2_wholeGates_17 ?_
        refine pw_aload_n C dX2_wholeGates_18 rfl 0 rfl ?_
        obtain ⟨r19, m19, hc19, h⟩ := fn_bi_s h
        refine pw_callVi (rest := [.int (m1 (o + 2) (v2).toNatClampNeg)]) C (pw_ltD ho) (pw_shD ho _) rfl (ct_X2_allWords l C.2.2.2.2.2.2.2.2 ho hc19) (cwV 0 C.2.2.2.2.1 gX2_wholeGates_X2_allWords rfl rfl rfl (by decide +kernel) ⟨Nat.le_of_ble_eq_true rfl, Nat.le_of_ble_eq_true rfl⟩) rfl rfl (Nat.le_of_ble_eq_true rfl) dX2_wholeGates_19 ?_
        refine fn_jn1_s (fun x31_0 m31 => pw_Go p l e ({ frames := 1, cells := 0, slots := 0, locals := 20 }) s m (([.ref (gad G o)] : List Value).toArray) below meth c (MQ below (va_Qi (fun (r1 : Int32) (u : pw_Mem) => r1 = r ∧ u = μ') (pw_B G) (gA G)) (([.ref (gad G o)] : List Value).toArray) s 0 0 (gA G)) G 3 31 [(0, .ref (gad G o)), (1, .int x31_0), (2, .int v2)] [] m31) h (fun x31_0 m31 h => ?_) (fun k31 hk31 h => ?_)
        · refine pw_iinc (v := (v2 + 1)) (lv' := [(2, .int (v2 + 1)), (0, .ref (gad G o)), (1, .int x31_0)]) C dX2_wholeGates_31 (q := 2) rfl rfl (by decide) rfl ?_
          refine pw_goto (tgt := 4) C dX2_wholeGates_34 (by decide) ?_
          refine pw_sub [1, 2, 0] rfl ?_
          exact ih _ _ _ h
        · refine pw_icmp_ne (tgt := 31) C dX2_wholeGates_22 (by decide) (fun c22 => ?_) (fun c22 => ?_)
          · have h := fn_pos c22 h
            exact hk31 _ _ h
          · have h := fn_neg c22 h
            refine pw_iload_n C dX2_wholeGates_25 rfl 1 rfl ?_
            refine pw_iconst (v := (1 : Int32)) C dX2_wholeGates_26 (by decide) ?_
            refine pw_iload_n C dX2_wholeGates_27 rfl 2 rfl ?_
            refine pw_ishl C dX2_wholeGates_28 ?_
            refine pw_ior C dX2_wholeGates_29 ?_
            refine pw_istore_n (lv' := [(1, .int (v1 ||| ((1 : Int32) <<< (v2 &&& 31)))), (0, .ref (gad G o)), (2, .int v2)]) C dX2_wholeGates_30 rfl (by decide) rfl ?_
            refine pw_sub [1, 0, 2] rfl ?_
            exact hk31 _ _ h
  refine pw_sub [2, 1, 0] rfl ?_
  refine L4 _ (fun y4_1 m37 h => ?_) _ _ _ _ h
  refine pw_iload_n C dX2_wholeGates_37 rfl 0 rfl ?_
  exact pw_iret C h dX2_wholeGates_38
set_option maxHeartbeats 4000000 in
set_option maxRecDepth 100000 in
theorem ct_X2_heardAtAny (l : Launch) {G : pw_G} (hG : pw_Ok G) {o : Nat} {a1 : Int32} (ho : pw_KD o) {μ μ' : pw_Mem} {r : Int32} (h : fn_X2_heardAtAny o a1 μ = some (r, μ')) : Met l yX2_heardAtAny wsX2_heardAtAny ({ frames := 0, cells := 0, slots := 0, locals := 0 }) (va_Pc [.ref (gad G o), .int a1] (pw_Pre G μ)) (va_Qi (fun (r1 : Int32) (u : pw_Mem) => r1 = r ∧ u = μ') (pw_B G) (gA G)) 0 0 (gA G) := by
  refine pw_met (lv := [(0, .ref (gad G o)), (1, .int a1)]) (own := RX2) (cc := cX2_heardAtAny) (maxL := 4) (ret := some .int) hG rfl (by decide) rfl rfl (Nat.le_of_ble_eq_true rfl) ?_
  intro p e s m below meth c C
  have iX2 : ∀ w ∈ u_ws RX2 TX2 12, w ∈ wsX2_heardAtAny := fun _ h => List.mem_cons_of_mem _ (List.mem_append_right _ (h))
  have k1 := C.2.2.2.2.1 (.fieldLink RX2 38 "PulpitRoads$Road" "stretches" "I") (List.mem_cons_of_mem _ (List.mem_append_left _ (List.mem_of_getElem? (i := 0) rfl)))
  have k2 := C.2.2.2.2.1 (.fieldLink RX2 15 "PulpitRoads$Road" "heardAt" "[I") (List.mem_cons_of_mem _ (List.mem_append_left _ (List.mem_of_getElem? (i := 1) rfl)))
  unfold fn_X2_heardAtAny at h
  refine pw_iconst (v := (0 : Int32)) C dX2_heardAtAny_0 (by decide) ?_
  refine pw_istore_n (lv' := [(2, .int (0 : Int32)), (0, .ref (gad G o)), (1, .int a1)]) C dX2_heardAtAny_1 rfl (by decide) rfl ?_
  refine pw_iconst (v := (0 : Int32)) C dX2_heardAtAny_2 (by decide) ?_
  refine pw_istore_n (lv' := [(3, .int (0 : Int32)), (2, .int (0 : Int32)), (0, .ref (gad G o)), (1, .int a1)]) C dX2_heardAtAny_3 rfl (by decide) rfl ?_
  have L4 : ∀ (k : Int32 → pw_Mem → Option (Int32 × pw_Mem)) (hk : ∀ (v2 : Int32) (m1 : pw_Mem), k v2 m1 = some (r, μ') → pw_Go p l e ({ frames := 0, cells := 0, slots := 0, locals := 0 }) s m (([.ref (gad G o), .int a1] : List Value).toArray) below meth c (MQ below (va_Qi (fun (r1 : Int32) (u : pw_Mem) => r1 = r ∧ u = μ') (pw_B G) (gA G)) (([.ref (gad G o), .int a1] : List Value).toArray) s 0 0 (gA G)) G 4 35 [(2, .int v2)] [] m1) (n : Nat) (v2 : Int32) (v3 : Int32) (m1 : pw_Mem), fl_X2_heardAtAny_4 k o a1 n v2 v3 m1 = some (r, μ') → pw_Go p l e ({ frames := 0, cells := 0, slots := 0, locals := 0 }) s m (([.ref (gad G o), .int a1] : List Value).toArray) below meth c (MQ below (va_Qi (fun (r1 : Int32) (u : pw_Mem) => r1 = r ∧ u = μ') (pw_B G) (gA G)) (([.ref (gad G o), .int a1] : List Value).toArray) s 0 0 (gA G)) G 4 4 [(0, .ref (gad G o)), (1, .int a1), (2, .int v2), (3, .int v3)] [] m1 := by
    intro k hk n
    induction n with
    | zero => intro v2 v3 m1 h; exact nomatch (show (none : Option (Int32 × pw_Mem)) = some _ from h)
    | succ n ih =>
      intro v2 v3 m1 h
      rw [fl_X2_heardAtAny_4] at h
      refine pw_iload_n C dX2_heardAtAny_4 rfl 3 rfl ?_
      refine pw_aload_n C dX2_heardAtAny_5 rfl 0 rfl ?_
      refine pw_get (v := .int (m1 o 4)) C iX2 (pw_ltD ho) (pw_shD ho _) rfl 4 (by decide) k1 rfl dX2_heardAtAny_6 ?_
      refine pw_icmp_ge (tgt := 35) C dX2_heardAtAny_9 (by decide) (fun c9 => ?_) (fun c9 => ?_)
      · have h := fn_pos c9 h
        refine pw_sub [2] rfl ?_
        exact hk _ _ h
      · have h := fn_neg c9 h
        refine pw_iload_n C dX2_heardAtAny_12 rfl 1 rfl ?_
        refine pw_iload_n C dX2_heardAtAny_13 rfl 3 rfl ?_
        refine pw_ishr C dX2_heardAtAny_14 ?_
        refine pw_iconst (v := (1 : Int32)) C dX2_heardAtAny_15 (by decide) ?_
        refine pw_iand C dX2_heardAtAny_16 ?_
        refine fn_jn1_s (fun x29_0 m29 => pw_Go p l e ({ frames := 0, cells := 0, slots := 0, locals := 0 }) s m (([.ref (gad G o), .int a1] : List Value).toArray) below meth c (MQ below (va_Qi (fun (r1 : Int32) (u : pw_Mem) => r1 = r ∧ u = μ') (pw_B G) (gA G)) (([.ref (gad G o), .int a1] : List Value).toArray) s 0 0 (gA G)) G 4 29 [(0, .ref (gad G o)), (1, .int a1), (2, .int x29_0), (3, .int v3)] [] m29) h (fun x29_0 m29 h => ?_) (fun k29 hk29 h => ?_)
        · refine pw_iinc (v := (v3 + 1)) (lv' := [(3, .int (v3 + 1)), (0, .ref (gad G o)), (1, .int a1), (2, .int x29_0)]) C dX2_heardAtAny_29 (q := 3) rfl rfl (by decide) rfl ?_
          refine pw_goto (tgt := 4) C dX2_heardAtAny_32 (by decide) ?_
          refine pw_sub [1, 2, 3, 0] rfl ?_
          exact ih _ _ _ h
        · refine pw_if_eq (tgt := 29) C dX2_heardAtAny_17 (by decide) (fun c17 => ?_) (fun c17 => ?_)
          · have h := fn_pos c17 h
            exact hk29 _ _ h
          · have h := fn_neg c17 h
            refine pw_iload_n C dX2_heardAtAny_20 rfl 2 rfl ?_
            refine pw_aload_n C dX2_heardAtAny_21 rfl 0 rfl ?_
            refine pw_get (v := .ref (gad G (o + 2))) C iX2 (pw_ltD ho) (pw_shD ho _) rfl 7 (by decide) k2 rfl dX2_heardAtAny_22 ?_
            refine pw_iload_n C dX2_heardAtAny_25 rfl 3 rfl ?_
            obtain ⟨hi26, h⟩ := fn_ix_s h
            refine pw_iald C (pw_ltD6 ho 2 (by decide)) ((pw_shD2 ho) _) hi26 dX2_heardAtAny_26 ?_
            refine pw_ior C dX2_heardAtAny_27 ?_
            refine pw_istore_n (lv' := [(2, .int (v2 ||| (m1 (o + 2) (v3).toNatClampNeg))), (0, .ref (gad G o)), (1, .int a1), (3, .int v3)]) C dX2_heardAtAny_28 rfl (by decide) rfl ?_
            refine pw_sub [1, 2, 0, 3] rfl ?_
            exact hk29 _ _ h
  refine pw_sub [2, 3, 1, 0] rfl ?_
  refine L4 _ (fun y4_2 m35 h => ?_) _ _ _ _ h
  refine pw_iload_n C dX2_heardAtAny_35 rfl 0 rfl ?_
  exact pw_iret C h dX2_heardAtAny_36
set_option maxHeartbeats 4000000 in
set_option maxRecDepth 100000 in
theorem ct_J6_bitCount_0f7a4 (l : Launch) {G : pw_G} (hG : pw_Ok G) {a0 : Int32}  {μ μ' : pw_Mem} {r : Int32} (h : fn_J6_bitCount_0f7a4 a0 μ = some (r, μ')) : Met l yJ6_bitCount_0f7a4 wsJ6_bitCount_0f7a4 ({ frames := 0, cells := 0, slots := 0, locals := 0 }) (va_Pc [.int a0] (pw_Pre G μ)) (va_Qi (fun (r1 : Int32) (u : pw_Mem) => r1 = r ∧ u = μ') (pw_B G) (gA G)) 0 0 (gA G) := by
  refine pw_met (lv := [(0, .int a0)]) (own := RJ6) (cc := cJ6_bitCount_0f7a4) (maxL := 1) (ret := some .int) hG rfl (by decide) rfl rfl (Nat.le_of_ble_eq_true rfl) ?_
  intro p e s m below meth c C
  have k1 := C.2.2.2.2.1 (.constant RJ6 265 (1431655765)) (List.mem_cons_of_mem _ (List.mem_of_getElem? (i := 0) rfl))
  have k2 := C.2.2.2.2.1 (.constant RJ6 266 (858993459)) (List.mem_cons_of_mem _ (List.mem_of_getElem? (i := 1) rfl))
  have k3 := C.2.2.2.2.1 (.constant RJ6 267 (252645135)) (List.mem_cons_of_mem _ (List.mem_of_getElem? (i := 2) rfl))
  unfold fn_J6_bitCount_0f7a4 at h
  refine pw_iload_n C dJ6_bitCount_0f7a4_0 rfl 0 rfl ?_
  refine pw_iload_n C dJ6_bitCount_0f7a4_1 rfl 0 rfl ?_
  refine pw_iconst (v := (1 : Int32)) C dJ6_bitCount_0f7a4_2 (by decide) ?_
  refine pw_iushr C dJ6_bitCount_0f7a4_3 ?_
  refine pw_ldcw C k1 dJ6_bitCount_0f7a4_4 ?_
  refine pw_iand C dJ6_bitCount_0f7a4_7 ?_
  refine pw_isub C dJ6_bitCount_0f7a4_8 ?_
  refine pw_istore_n (lv' := [(0, .int (a0 - (((a0).toUInt32 >>> (((1 : Int32)).toUInt32 &&& Int32.toUInt32 31)).toInt32 &&& (1431655765 : Int32))))]) C dJ6_bitCount_0f7a4_9 rfl (by decide) rfl ?_
  refine pw_iload_n C dJ6_bitCount_0f7a4_10 rfl 0 rfl ?_
  refine pw_ldcw C k2 dJ6_bitCount_0f7a4_11 ?_
  refine pw_iand C dJ6_bitCount_0f7a4_14 ?_
  refine pw_iload_n C dJ6_bitCount_0f7a4_15 rfl 0 rfl ?_
  refine pw_iconst (v := (2 : Int32)) C dJ6_bitCount_0f7a4_16 (by decide) ?_
  refine pw_iushr C dJ6_bitCount_0f7a4_17 ?_
  refine pw_ldcw C k2 dJ6_bitCount_0f7a4_18 ?_
  refine pw_iand C dJ6_bitCount_0f7a4_21 ?_
  refine pw_iadd C dJ6_bitCount_0f7a4_22 ?_
  refine pw_istore_n (lv' := [(0, .int (((a0 - (((a0).toUInt32 >>> (((1 : Int32)).toUInt32 &&& Int32.toUInt32 31)).toInt32 &&& (1431655765 : Int32))) &&& (858993459 : Int32)) + ((((a0 - (((a0).toUInt32 >>> (((1 : Int32)).toUInt32 &&& Int32.toUInt32 31)).toInt32 &&& (1431655765 : Int32)))).toUInt32 >>> (((2 : Int32)).toUInt32 &&& Int32.toUInt32 31)).toInt32 &&& (858993459 : Int32))))]) C dJ6_bitCount_0f7a4_23 rfl (by decide) rfl ?_
  refine pw_iload_n C dJ6_bitCount_0f7a4_24 rfl 0 rfl ?_
  refine pw_iload_n C dJ6_bitCount_0f7a4_25 rfl 0 rfl ?_
  refine pw_iconst (v := (4 : Int32)) C dJ6_bitCount_0f7a4_26 (by decide) ?_
  refine pw_iushr C dJ6_bitCount_0f7a4_27 ?_
  refine pw_iadd C dJ6_bitCount_0f7a4_28 ?_
  refine pw_ldcw C k3 dJ6_bitCount_0f7a4_29 ?_
  refine pw_iand C dJ6_bitCount_0f7a4_32 ?_
  refine pw_istore_n (lv' := [(0, .int (((((a0 - (((a0).toUInt32 >>> (((1 : Int32)).toUInt32 &&& Int32.toUInt32 31)).toInt32 &&& (1431655765 : Int32))) &&& (858993459 : Int32)) + ((((a0 - (((a0).toUInt32 >>> (((1 : Int32)).toUInt32 &&& Int32.toUInt32 31)).toInt32 &&& (1431655765 : Int32)))).toUInt32 >>> (((2 : Int32)).toUInt32 &&& Int32.toUInt32 31)).toInt32 &&& (858993459 : Int32))) + (((((a0 - (((a0).toUInt32 >>> (((1 : Int32)).toUInt32 &&& Int32.toUInt32 31)).toInt32 &&& (1431655765 : Int32))) &&& (858993459 : Int32)) + ((((a0 - (((a0).toUInt32 >>> (((1 : Int32)).toUInt32 &&& Int32.toUInt32 31)).toInt32 &&& (1431655765 : Int32)))).toUInt32 >>> (((2 : Int32)).toUInt32 &&& Int32.toUInt32 31)).toInt32 &&& (858993459 : Int32)))).toUInt32 >>> (((4 : Int32)).toUInt32 &&& Int32.toUInt32 31)).toInt32) &&& (252645135 : Int32)))]) C dJ6_bitCount_0f7a4_33 rfl (by decide) rfl ?_
  refine pw_iload_n C dJ6_bitCount_0f7a4_34 rfl 0 rfl ?_
  refine pw_iload_n C dJ6_bitCount_0f7a4_35 rfl 0 rfl ?_
  refine pw_bipush (v := (8 : Int32)) C dJ6_bitCount_0f7a4_36 (by decide) ?_
  refine pw_iushr C dJ6_bitCount_0f7a4_38 ?_
  refine pw_iadd C dJ6_bitCount_0f7a4_39 ?_
  refine pw_istore_n (lv' := [(0, .int ((((((a0 - (((a0).toUInt32 >>> (((1 : Int32)).toUInt32 &&& Int32.toUInt32 31)).toInt32 &&& (1431655765 : Int32))) &&& (858993459 : Int32)) + ((((a0 - (((a0).toUInt32 >>> (((1 : Int32)).toUInt32 &&& Int32.toUInt32 31)).toInt32 &&& (1431655765 : Int32)))).toUInt32 >>> (((2 : Int32)).toUInt32 &&& Int32.toUInt32 31)).toInt32 &&& (858993459 : Int32))) + (((((a0 - (((a0).toUInt32 >>> (((1 : Int32)).toUInt32 &&& Int32.toUInt32 31)).toInt32 &&& (1431655765 : Int32))) &&& (858993459 : Int32)) + ((((a0 - (((a0).toUInt32 >>> (((1 : Int32)).toUInt32 &&& Int32.toUInt32 31)).toInt32 &&& (1431655765 : Int32)))).toUInt32 >>> (((2 : Int32)).toUInt32 &&& Int32.toUInt32 31)).toInt32 &&& (858993459 : Int32)))).toUInt32 >>> (((4 : Int32)).toUInt32 &&& Int32.toUInt32 31)).toInt32) &&& (252645135 : Int32)) + (((((((a0 - (((a0).toUInt32 >>> (((1 : Int32)).toUInt32 &&& Int32.toUInt32 31)).toInt32 &&& (1431655765 : Int32))) &&& (858993459 : Int32)) + ((((a0 - (((a0).toUInt32 >>> (((1 : Int32)).toUInt32 &&& Int32.toUInt32 31)).toInt32 &&& (1431655765 : Int32)))).toUInt32 >>> (((2 : Int32)).toUInt32 &&& Int32.toUInt32 31)).toInt32 &&& (858993459 : Int32))) + (((((a0 - (((a0).toUInt32 >>> (((1 : Int32)).toUInt32 &&& Int32.toUInt32 31)).toInt32 &&& (1431655765 : Int32))) &&& (858993459 : Int32)) + ((((a0 - (((a0).toUInt32 >>> (((1 : Int32)).toUInt32 &&& Int32.toUInt32 31)).toInt32 &&& (1431655765 : Int32)))).toUInt32 >>> (((2 : Int32)).toUInt32 &&& Int32.toUInt32 31)).toInt32 &&& (858993459 : Int32)))).toUInt32 >>> (((4 : Int32)).toUInt32 &&& Int32.toUInt32 31)).toInt32) &&& (252645135 : Int32))).toUInt32 >>> (((8 : Int32)).toUInt32 &&& Int32.toUInt32 31)).toInt32))]) C dJ6_bitCount_0f7a4_40 rfl (by decide) rfl ?_
  refine pw_iload_n C dJ6_bitCount_0f7a4_41 rfl 0 rfl ?_
  refine pw_iload_n C dJ6_bitCount_0f7a4_42 rfl 0 rfl ?_
  refine pw_bipush (v := (16 : Int32)) C dJ6_bitCount_0f7a4_43 (by decide) ?_
  refine pw_iushr C dJ6_bitCount_0f7a4_45 ?_
  refine pw_iadd C dJ6_bitCount_0f7a4_46 ?_
  refine pw_istore_n (lv' := [(0, .int (((((((a0 - (((a0).toUInt32 >>> (((1 : Int32)).toUInt32 &&& Int32.toUInt32 31)).toInt32 &&& (1431655765 : Int32))) &&& (858993459 : Int32)) + ((((a0 - (((a0).toUInt32 >>> (((1 : Int32)).toUInt32 &&& Int32.toUInt32 31)).toInt32 &&& (1431655765 : Int32)))).toUInt32 >>> (((2 : Int32)).toUInt32 &&& Int32.toUInt32 31)).toInt32 &&& (858993459 : Int32))) + (((((a0 - (((a0).toUInt32 >>> (((1 : Int32)).toUInt32 &&& Int32.toUInt32 31)).toInt32 &&& (1431655765 : Int32))) &&& (858993459 : Int32)) + ((((a0 - (((a0).toUInt32 >>> (((1 : Int32)).toUInt32 &&& Int32.toUInt32 31)).toInt32 &&& (1431655765 : Int32)))).toUInt32 >>> (((2 : Int32)).toUInt32 &&& Int32.toUInt32 31)).toInt32 &&& (858993459 : Int32)))).toUInt32 >>> (((4 : Int32)).toUInt32 &&& Int32.toUInt32 31)).toInt32) &&& (252645135 : Int32)) + (((((((a0 - (((a0).toUInt32 >>> (((1 : Int32)).toUInt32 &&& Int32.toUInt32 31)).toInt32 &&& (1431655765 : Int32))) &&& (858993459 : Int32)) + ((((a0 - (((a0).toUInt32 >>> (((1 : Int32)).toUInt32 &&& Int32.toUInt32 31)).toInt32 &&& (1431655765 : Int32)))).toUInt32 >>> (((2 : Int32)).toUInt32 &&& Int32.toUInt32 31)).toInt32 &&& (858993459 : Int32))) + (((((a0 - (((a0).toUInt32 >>> (((1 : Int32)).toUInt32 &&& Int32.toUInt32 31)).toInt32 &&& (1431655765 : Int32))) &&& (858993459 : Int32)) + ((((a0 - (((a0).toUInt32 >>> (((1 : Int32)).toUInt32 &&& Int32.toUInt32 31)).toInt32 &&& (1431655765 : Int32)))).toUInt32 >>> (((2 : Int32)).toUInt32 &&& Int32.toUInt32 31)).toInt32 &&& (858993459 : Int32)))).toUInt32 >>> (((4 : Int32)).toUInt32 &&& Int32.toUInt32 31)).toInt32) &&& (252645135 : Int32))).toUInt32 >>> (((8 : Int32)).toUInt32 &&& Int32.toUInt32 31)).toInt32) + ((((((((a0 - (((a0).toUInt32 >>> (((1 : Int32)).toUInt32 &&& Int32.toUInt32 31)).toInt32 &&& (1431655765 : Int32))) &&& (858993459 : Int32)) + ((((a0 - (((a0).toUInt32 >>> (((1 : Int32)).toUInt32 &&& Int32.toUInt32 31)).toInt32 &&& (1431655765 : Int32)))).toUInt32 >>> (((2 : Int32)).toUInt32 &&& Int32.toUInt32 31)).toInt32 &&& (858993459 : Int32))) + (((((a0 - (((a0).toUInt32 >>> (((1 : Int32)).toUInt32 &&& Int32.toUInt32 31)).toInt32 &&& (1431655765 : Int32))) &&& (858993459 : Int32)) + ((((a0 - (((a0).toUInt32 >>> (((1 : Int32)).toUInt32 &&& Int32.toUInt32 31)).toInt32 &&& (1431655765 : Int32)))).toUInt32 >>> (((2 : Int32)).toUInt32 &&& Int32.toUInt32 31)).toInt32 &&& (858993459 : Int32)))).toUInt32 >>> (((4 : Int32)).toUInt32 &&& Int32.toUInt32 31)).toInt32) &&& (252645135 : Int32)) + (((((((a0 - (((a0).toUInt32 >>> (((1 : Int32)).toUInt32 &&& Int32.toUInt32 31)).toInt32 &&& (1431655765 : Int32))) &&& (858993459 : Int32)) + ((((a0 - (((a0).toUInt32 >>> (((1 : Int32)).toUInt32 &&& Int32.toUInt32 31)).toInt32 &&& (1431655765 : Int32)))).toUInt32 >>> (((2 : Int32)).toUInt32 &&& Int32.toUInt32 31)).toInt32 &&& (858993459 : Int32))) + (((((a0 - (((a0).toUInt32 >>> (((1 : Int32)).toUInt32 &&& Int32.toUInt32 31)).toInt32 &&& (1431655765 : Int32))) &&& (858993459 : Int32)) + ((((a0 - (((a0).toUInt32 >>> (((1 : Int32)).toUInt32 &&& Int32.toUInt32 31)).toInt32 &&& (1431655765 : Int32)))).toUInt32 >>> (((2 : Int32)).toUInt32 &&& Int32.toUInt32 31)).toInt32 &&& (858993459 : Int32)))).toUInt32 >>> (((4 : Int32)).toUInt32 &&& Int32.toUInt32 31)).toInt32) &&& (252645135 : Int32))).toUInt32 >>> (((8 : Int32)).toUInt32 &&& Int32.toUInt32 31)).toInt32)).toUInt32 >>> (((16 : Int32)).toUInt32 &&& Int32.toUInt32 31)).toInt32))]) C dJ6_bitCount_0f7a4_47 rfl (by decide) rfl ?_
  refine pw_iload_n C dJ6_bitCount_0f7a4_48 rfl 0 rfl ?_
  refine pw_bipush (v := (63 : Int32)) C dJ6_bitCount_0f7a4_49 (by decide) ?_
  refine pw_iand C dJ6_bitCount_0f7a4_51 ?_
  exact pw_iret C h dJ6_bitCount_0f7a4_52
set_option maxHeartbeats 4000000 in
set_option maxRecDepth 100000 in
theorem ct_X2_wordsHeard (l : Launch) {G : pw_G} (hG : pw_Ok G) {o : Nat} (ho : pw_KD o) {μ μ' : pw_Mem} {r : Int32} (h : fn_X2_wordsHeard o μ = some (r, μ')) : Met l yX2_wordsHeard wsX2_wordsHeard ({ frames := 1, cells := 0, slots := 0, locals := 20 }) (va_Pc [.ref (gad G o)] (pw_Pre G μ)) (va_Qi (fun (r1 : Int32) (u : pw_Mem) => r1 = r ∧ u = μ') (pw_B G) (gA G)) 0 0 (gA G) := by
  refine pw_met (lv := [(0, .ref (gad G o))]) (own := RX2) (cc := cX2_wordsHeard) (maxL := 3) (ret := some .int) hG rfl (by decide) rfl rfl (Nat.le_of_ble_eq_true rfl) ?_
  intro p e s m below meth c C
  have iX2 : ∀ w ∈ u_ws RX2 TX2 12, w ∈ wsX2_wordsHeard := fun _ h => List.mem_cons_of_mem _ (List.mem_append_right _ (h))
  have k1 := C.2.2.2.2.1 (.fieldLink RX2 38 "PulpitRoads$Road" "stretches" "I") (List.mem_cons_of_mem _ (List.mem_append_left _ (List.mem_of_getElem? (i := 0) rfl)))
  have k2 := C.2.2.2.2.1 (.fieldLink RX2 15 "PulpitRoads$Road" "heardAt" "[I") (List.mem_cons_of_mem _ (List.mem_append_left _ (List.mem_of_getElem? (i := 1) rfl)))
  unfold fn_X2_wordsHeard at h
  refine pw_iconst (v := (0 : Int32)) C dX2_wordsHeard_0 (by decide) ?_
  refine pw_istore_n (lv' := [(1, .int (0 : Int32)), (0, .ref (gad G o))]) C dX2_wordsHeard_1 rfl (by decide) rfl ?_
  refine pw_iconst (v := (0 : Int32)) C dX2_wordsHeard_2 (by decide) ?_
  refine pw_istore_n (lv' := [(2, .int (0 : Int32)), (1, .int (0 : Int32)), (0, .ref (gad G o))]) C dX2_wordsHeard_3 rfl (by decide) rfl ?_
  have L4 : ∀ (k : Int32 → pw_Mem → Option (Int32 × pw_Mem)) (hk : ∀ (v1 : Int32) (m1 : pw_Mem), k v1 m1 = some (r, μ') → pw_Go p l e ({ frames := 1, cells := 0, slots := 0, locals := 20 }) s m (([.ref (gad G o)] : List Value).toArray) below meth c (MQ below (va_Qi (fun (r1 : Int32) (u : pw_Mem) => r1 = r ∧ u = μ') (pw_B G) (gA G)) (([.ref (gad G o)] : List Value).toArray) s 0 0 (gA G)) G 3 30 [(1, .int v1)] [] m1) (n : Nat) (v1 : Int32) (v2 : Int32) (m1 : pw_Mem), fl_X2_wordsHeard_4 k o n v1 v2 m1 = some (r, μ') → pw_Go p l e ({ frames := 1, cells := 0, slots := 0, locals := 20 }) s m (([.ref (gad G o)] : List Value).toArray) below meth c (MQ below (va_Qi (fun (r1 : Int32) (u : pw_Mem) => r1 = r ∧ u = μ') (pw_B G) (gA G)) (([.ref (gad G o)] : List Value).toArray) s 0 0 (gA G)) G 3 4 [(0, .ref (gad G o)), (1, .int v1), (2, .int v2)] [] m1 := by
    intro k hk n
    induction n with
    | zero => intro v1 v2 m1 h; exact nomatch (show (none : Option (Int32 × pw_Mem)) = some _ from h)
    | succ n ih =>
      intro v1 v2 m1 h
      rw [fl_X2_wordsHeard_4] at h
      refine pw_iload_n C dX2_wordsHeard_4 rfl 2 rfl ?_
      refine pw_aload_n C dX2_wordsHeard_5 rfl 0 rfl ?_
      refine pw_get (v := .int (m1 o 4)) C iX2 (pw_ltD ho) (pw_shD ho _) rfl 4 (by decide) k1 rfl dX2_wordsHeard_6 ?_
      refine pw_icmp_ge (tgt := 30) C dX2_wordsHeard_9 (by decide) (fun c9 => ?_) (fun c9 => ?_)
      · have h := fn_pos c9 h
        refine pw_sub [1] rfl ?_
        exact hk _ _ h
      · have h := fn_neg c9 h
        refine pw_iload_n C dX2_wordsHeard_12 rfl 1 rfl ?_
        refine pw_aload_n C dX2_wordsHeard_13 rfl 0 rfl ?_
        refine pw_get (v := .ref (gad G (o + 2))) C iX2 (pw_ltD ho) (pw_shD ho _) rfl 7 (by decide) k2 rfl dX2_wordsHeard_14 ?_
        refine pw_iload_n C dX2_wordsHeard_17 rfl 2 rfl ?_
        obtain ⟨hi18, h⟩ := fn_ix_s h
        refine pw_iald C (pw_ltD6 ho 2 (by decide)) ((pw_shD2 ho) _) hi18 dX2_wordsHeard_18 ?_
        obtain ⟨r19, m19, hc19, h⟩ := fn_bi_s h
        refine pw_callSi (rest := [.int v1]) C (ct_J6_bitCount_0f7a4 l C.2.2.2.2.2.2.2.2 hc19) (va_cwS 1 C.2.2.2.2.1 gX2_wordsHeard_J6_bitCount_0f7a4 rfl rfl rfl (by decide +kernel) ⟨Nat.le_of_ble_eq_true rfl, Nat.le_of_ble_eq_true rfl⟩) rfl rfl (Nat.le_of_ble_eq_true rfl) dX2_wordsHeard_19 ?_
        refine pw_iadd C dX2_wordsHeard_22 ?_
        refine pw_istore_n (lv' := [(1, .int (v1 + r19)), (0, .ref (gad G o)), (2, .int v2)]) C dX2_wordsHeard_23 rfl (by decide) rfl ?_
        refine pw_iinc (v := (v2 + 1)) (lv' := [(2, .int (v2 + 1)), (1, .int (v1 + r19)), (0, .ref (gad G o))]) C dX2_wordsHeard_24 (q := 2) rfl rfl (by decide) rfl ?_
        refine pw_goto (tgt := 4) C dX2_wordsHeard_27 (by decide) ?_
        refine pw_sub [2, 1, 0] rfl ?_
        exact ih _ _ _ h
  refine pw_sub [2, 1, 0] rfl ?_
  refine L4 _ (fun y4_1 m30 h => ?_) _ _ _ _ h
  refine pw_iload_n C dX2_wordsHeard_30 rfl 0 rfl ?_
  exact pw_iret C h dX2_wordsHeard_31
set_option maxHeartbeats 4000000 in
set_option maxRecDepth 100000 in
theorem ct_X3_begin (l : Launch) {G : pw_G} (hG : pw_Ok G) {o : Nat} {a1 : Int32} {a2 : Int32} (ho : pw_KR o) {μ μ' : pw_Mem} (h : fn_X3_begin o a1 a2 μ = some μ') : Met l yX3_begin wsX3_begin ({ frames := 0, cells := 0, slots := 0, locals := 0 }) (va_Pc [.ref (gad G o), .int a1, .int a2] (pw_Pre G μ)) (va_Qv (fun (u : pw_Mem) => u = μ') (pw_B G) (gA G)) 0 0 (gA G) := by
  refine pw_met (lv := [(0, .ref (gad G o)), (1, .int a1), (2, .int a2)]) (own := RX3) (cc := cX3_begin) (maxL := 4) (ret := none) hG rfl (by decide) rfl rfl (Nat.le_of_ble_eq_true rfl) ?_
  intro p e s m below meth c C
  have iX3 : ∀ w ∈ u_ws RX3 TX3 4, w ∈ wsX3_begin := fun _ h => List.mem_cons_of_mem _ (List.mem_append_right _ (h))
  have k1 := C.2.2.2.2.1 (.fieldLink RX3 15 "PulpitRoads$Row" "missing" "Z") (List.mem_cons_of_mem _ (List.mem_append_left _ (List.mem_of_getElem? (i := 0) rfl)))
  have k2 := C.2.2.2.2.1 (.fieldLink RX3 19 "PulpitRoads$Row" "lane" "I") (List.mem_cons_of_mem _ (List.mem_append_left _ (List.mem_of_getElem? (i := 1) rfl)))
  have k3 := C.2.2.2.2.1 (.fieldLink RX3 23 "PulpitRoads$Row" "length" "I") (List.mem_cons_of_mem _ (List.mem_append_left _ (List.mem_of_getElem? (i := 2) rfl)))
  have k4 := C.2.2.2.2.1 (.fieldLink RX3 9 "PulpitRoads$Row" "items" "[I") (List.mem_cons_of_mem _ (List.mem_append_left _ (List.mem_of_getElem? (i := 3) rfl)))
  unfold fn_X3_begin at h
  refine pw_aload_n C dX3_begin_0 rfl 0 rfl ?_
  refine pw_iconst (v := (0 : Int32)) C dX3_begin_1 (by decide) ?_
  obtain ⟨hz2, h⟩ := fn_bz_s h
  refine pw_put (host := "PulpitRoads") (ty := .boolean) C iX3 tyX3 tyX3_ok nmX3 (pw_ltR ho) (pw_shR ho _) rfl 1 (by decide) (pw_shR ho _) k1 rfl (by decide +kernel) (fn_bool hz2) (Nat.le_of_ble_eq_true rfl) dX3_begin_2 ?_
  refine pw_aload_n C dX3_begin_5 rfl 0 rfl ?_
  refine pw_iload_n C dX3_begin_6 rfl 1 rfl ?_
  refine pw_put (host := "PulpitRoads") (ty := .int) C iX3 tyX3 tyX3_ok nmX3 (pw_ltR ho) (pw_shR ho _) rfl 2 (by decide) (pw_shR ho _) k2 rfl (by decide +kernel) (fn_int _) (Nat.le_of_ble_eq_true rfl) dX3_begin_7 ?_
  refine pw_aload_n C dX3_begin_10 rfl 0 rfl ?_
  refine pw_iload_n C dX3_begin_11 rfl 2 rfl ?_
  refine pw_put (host := "PulpitRoads") (ty := .int) C iX3 tyX3 tyX3_ok nmX3 (pw_ltR ho) (pw_shR ho _) rfl 3 (by decide) (pw_shR ho _) k3 rfl (by decide +kernel) (fn_int _) (Nat.le_of_ble_eq_true rfl) dX3_begin_12 ?_
  refine pw_iconst (v := (0 : Int32)) C dX3_begin_15 (by decide) ?_
  refine pw_istore_n (lv' := [(3, .int (0 : Int32)), (0, .ref (gad G o)), (1, .int a1), (2, .int a2)]) C dX3_begin_16 rfl (by decide) rfl ?_
  have L17 : ∀ (k : pw_Mem → Option (pw_Mem)) (hk : ∀  (m1 : pw_Mem), k m1 = some μ' → pw_Go p l e ({ frames := 0, cells := 0, slots := 0, locals := 0 }) s m (([.ref (gad G o), .int a1, .int a2] : List Value).toArray) below meth c (MQ below (va_Qv (fun (u : pw_Mem) => u = μ') (pw_B G) (gA G)) (([.ref (gad G o), .int a1, .int a2] : List Value).toArray) s 0 0 (gA G)) G 4 35 [] [] m1) (n : Nat) (v3 : Int32) (m1 : pw_Mem), fl_X3_begin_17 k o a2 n v3 m1 = some μ' → pw_Go p l e ({ frames := 0, cells := 0, slots := 0, locals := 0 }) s m (([.ref (gad G o), .int a1, .int a2] : List Value).toArray) below meth c (MQ below (va_Qv (fun (u : pw_Mem) => u = μ') (pw_B G) (gA G)) (([.ref (gad G o), .int a1, .int a2] : List Value).toArray) s 0 0 (gA G)) G 4 17 [(0, .ref (gad G o)), (2, .int a2), (3, .int v3)] [] m1 := by
    intro k hk n
    induction n with
    | zero => intro v3 m1 h; exact nomatch (show (none : Option (pw_Mem)) = some _ from h)
    | succ n ih =>
      intro v3 m1 h
      rw [fl_X3_begin_17] at h
      refine pw_iload_n C dX3_begin_17 rfl 2 rfl ?_
      refine pw_iload_n C dX3_begin_18 rfl 1 rfl ?_
      refine pw_icmp_ge (tgt := 35) C dX3_begin_19 (by decide) (fun c19 => ?_) (fun c19 => ?_)
      · have h := fn_pos c19 h
        refine pw_sub [] rfl ?_
        exact hk _ h
      · have h := fn_neg c19 h
        refine pw_aload_n C dX3_begin_22 rfl 0 rfl ?_
        refine pw_get (v := .ref (gad G (o + 1))) C iX3 (pw_ltR ho) (pw_shR ho _) rfl 0 (by decide) k4 rfl dX3_begin_23 ?_
        refine pw_iload_n C dX3_begin_26 rfl 2 rfl ?_
        refine pw_iconst (v := (0 : Int32)) C dX3_begin_27 (by decide) ?_
        obtain ⟨hi28, h⟩ := fn_ix_s h
        refine pw_iast C (pw_ltR1 ho) (pw_shR1 ho) hi28 dX3_begin_28 ?_
        refine pw_iinc (v := (v3 + 1)) (lv' := [(3, .int (v3 + 1)), (0, .ref (gad G o)), (2, .int a2)]) C dX3_begin_29 (q := 2) rfl rfl (by decide) rfl ?_
        refine pw_goto (tgt := 17) C dX3_begin_32 (by decide) ?_
        refine pw_sub [1, 2, 0] rfl ?_
        exact ih _ _ h
  refine pw_sub [1, 3, 0] rfl ?_
  refine L17 _ (fun m35 h => ?_) _ _ _ h
  exact pw_vret C h dX3_begin_35
set_option maxHeartbeats 4000000 in
set_option maxRecDepth 100000 in
theorem ct_X3_hasPlaces (l : Launch) {G : pw_G} (hG : pw_Ok G) {o : Nat} {a1 : Int32} {a2 : Int32} (ho : pw_KR o) {μ μ' : pw_Mem} {r : Int32} (h : fn_X3_hasPlaces o a1 a2 μ = some (r, μ')) : Met l yX3_hasPlaces wsX3_hasPlaces ({ frames := 0, cells := 0, slots := 0, locals := 0 }) (va_Pc [.ref (gad G o), .int a1, .int a2] (pw_Pre G μ)) (va_Qi (fun (r1 : Int32) (u : pw_Mem) => r1 = r ∧ u = μ') (pw_B G) (gA G)) 0 0 (gA G) := by
  refine pw_met (lv := [(0, .ref (gad G o)), (1, .int a1), (2, .int a2)]) (own := RX3) (cc := cX3_hasPlaces) (maxL := 3) (ret := some .boolean) hG rfl (by decide) rfl rfl (Nat.le_of_ble_eq_true rfl) ?_
  intro p e s m below meth c C
  have iX3 : ∀ w ∈ u_ws RX3 TX3 4, w ∈ wsX3_hasPlaces := fun _ h => List.mem_cons_of_mem _ (List.mem_append_right _ (h))
  have k1 := C.2.2.2.2.1 (.fieldLink RX3 23 "PulpitRoads$Row" "length" "I") (List.mem_cons_of_mem _ (List.mem_append_left _ (List.mem_of_getElem? (i := 0) rfl)))
  unfold fn_X3_hasPlaces at h
  refine pw_iload_n C dX3_hasPlaces_0 rfl 1 rfl ?_
  refine pw_if_lt (tgt := 30) C dX3_hasPlaces_1 (by decide) (fun c1 => ?_) (fun c1 => ?_)
  · have h := fn_pos c1 h
    refine pw_iconst (v := (0 : Int32)) C dX3_hasPlaces_30 (by decide) ?_
    obtain ⟨hz31, h⟩ := fn_bz_s h
    exact pw_zret C hz31 h dX3_hasPlaces_31
  · have h := fn_neg c1 h
    refine pw_iload_n C dX3_hasPlaces_4 rfl 2 rfl ?_
    refine pw_if_lt (tgt := 30) C dX3_hasPlaces_5 (by decide) (fun c5 => ?_) (fun c5 => ?_)
    · have h := fn_pos c5 h
      refine pw_iconst (v := (0 : Int32)) C dX3_hasPlaces_30 (by decide) ?_
      obtain ⟨hz31, h⟩ := fn_bz_s h
      exact pw_zret C hz31 h dX3_hasPlaces_31
    · have h := fn_neg c5 h
      refine pw_iload_n C dX3_hasPlaces_8 rfl 1 rfl ?_
      refine pw_aload_n C dX3_hasPlaces_9 rfl 0 rfl ?_
      refine pw_get (v := .int (μ o 3)) C iX3 (pw_ltR ho) (pw_shR ho _) rfl 3 (by decide) k1 rfl dX3_hasPlaces_10 ?_
      refine pw_icmp_gt (tgt := 30) C dX3_hasPlaces_13 (by decide) (fun c13 => ?_) (fun c13 => ?_)
      · have h := fn_pos c13 h
        refine pw_iconst (v := (0 : Int32)) C dX3_hasPlaces_30 (by decide) ?_
        obtain ⟨hz31, h⟩ := fn_bz_s h
        exact pw_zret C hz31 h dX3_hasPlaces_31
      · have h := fn_neg c13 h
        refine pw_iload_n C dX3_hasPlaces_16 rfl 2 rfl ?_
        refine pw_aload_n C dX3_hasPlaces_17 rfl 0 rfl ?_
        refine pw_get (v := .int (μ o 3)) C iX3 (pw_ltR ho) (pw_shR ho _) rfl 3 (by decide) k1 rfl dX3_hasPlaces_18 ?_
        refine pw_iload_n C dX3_hasPlaces_21 rfl 1 rfl ?_
        refine pw_isub C dX3_hasPlaces_22 ?_
        refine pw_icmp_gt (tgt := 30) C dX3_hasPlaces_23 (by decide) (fun c23 => ?_) (fun c23 => ?_)
        · have h := fn_pos c23 h
          refine pw_iconst (v := (0 : Int32)) C dX3_hasPlaces_30 (by decide) ?_
          obtain ⟨hz31, h⟩ := fn_bz_s h
          exact pw_zret C hz31 h dX3_hasPlaces_31
        · have h := fn_neg c23 h
          refine pw_iconst (v := (1 : Int32)) C dX3_hasPlaces_26 (by decide) ?_
          refine pw_goto (tgt := 31) C dX3_hasPlaces_27 (by decide) ?_
          obtain ⟨hz31, h⟩ := fn_bz_s h
          exact pw_zret C hz31 h dX3_hasPlaces_31
set_option maxHeartbeats 4000000 in
set_option maxRecDepth 100000 in
theorem ct_X3_cut (l : Launch) {G : pw_G} (hG : pw_Ok G) {o : Nat} {a1 : Int32} (ho : pw_KR o) {μ μ' : pw_Mem} {r : Int32} (h : fn_X3_cut o a1 μ = some (r, μ')) : Met l yX3_cut wsX3_cut ({ frames := 0, cells := 0, slots := 0, locals := 0 }) (va_Pc [.ref (gad G o), .int a1] (pw_Pre G μ)) (va_Qi (fun (r1 : Int32) (u : pw_Mem) => r1 = r ∧ u = μ') (pw_B G) (gA G)) 0 0 (gA G) := by
  refine pw_met (lv := [(0, .ref (gad G o)), (1, .int a1)]) (own := RX3) (cc := cX3_cut) (maxL := 2) (ret := some .int) hG rfl (by decide) rfl rfl (Nat.le_of_ble_eq_true rfl) ?_
  intro p e s m below meth c C
  have iX3 : ∀ w ∈ u_ws RX3 TX3 4, w ∈ wsX3_cut := fun _ h => List.mem_cons_of_mem _ (List.mem_append_right _ (h))
  have k1 := C.2.2.2.2.1 (.fieldLink RX3 19 "PulpitRoads$Row" "lane" "I") (List.mem_cons_of_mem _ (List.mem_append_left _ (List.mem_of_getElem? (i := 0) rfl)))
  unfold fn_X3_cut at h
  refine pw_aload_n C dX3_cut_0 rfl 0 rfl ?_
  refine pw_get (v := .int (μ o 2)) C iX3 (pw_ltR ho) (pw_shR ho _) rfl 2 (by decide) k1 rfl dX3_cut_1 ?_
  refine pw_if_ne (tgt := 10) C dX3_cut_4 (by decide) (fun c4 => ?_) (fun c4 => ?_)
  · have h := fn_pos c4 h
    refine pw_aload_n C dX3_cut_10 rfl 0 rfl ?_
    refine pw_get (v := .int (μ o 2)) C iX3 (pw_ltR ho) (pw_shR ho _) rfl 2 (by decide) k1 rfl dX3_cut_11 ?_
    refine pw_iconst (v := (1 : Int32)) C dX3_cut_14 (by decide) ?_
    refine pw_icmp_ne (tgt := 23) C dX3_cut_15 (by decide) (fun c15 => ?_) (fun c15 => ?_)
    · have h := fn_pos c15 h
      refine pw_iload_n C dX3_cut_23 rfl 1 rfl ?_
      exact pw_iret C h dX3_cut_24
    · have h := fn_neg c15 h
      refine pw_iload_n C dX3_cut_18 rfl 1 rfl ?_
      refine pw_i2s C dX3_cut_19 ?_
      refine pw_goto (tgt := 24) C dX3_cut_20 (by decide) ?_
      exact pw_iret C h dX3_cut_24
  · have h := fn_neg c4 h
    refine pw_iload_n C dX3_cut_7 rfl 1 rfl ?_
    refine pw_i2b C dX3_cut_8 ?_
    exact pw_iret C h dX3_cut_9
set_option maxHeartbeats 4000000 in
set_option maxRecDepth 100000 in
theorem ct_X4_add (l : Launch) {G : pw_G} (hG : pw_Ok G) {a1 : Int32}  {μ μ' : pw_Mem} (h : fn_X4_add a1 μ = some μ') : Met l yX4_add wsX4_add ({ frames := 0, cells := 0, slots := 0, locals := 0 }) (va_Pc [.ref (gad G 2), .int a1] (pw_Pre G μ)) (va_Qv (fun (u : pw_Mem) => u = μ') (pw_B G) (gA G)) 0 0 (gA G) := by
  refine pw_met (lv := [(0, .ref (gad G 2)), (1, .int a1)]) (own := RX4) (cc := cX4_add) (maxL := 2) (ret := none) hG rfl (by decide) rfl rfl (Nat.le_of_ble_eq_true rfl) ?_
  intro p e s m below meth c C
  have iX4 : ∀ w ∈ u_ws RX4 TX4 4, w ∈ wsX4_add := fun _ h => List.mem_cons_of_mem _ (List.mem_append_right _ (h))
  have k1 := C.2.2.2.2.1 (.fieldLink RX4 15 "PulpitRoads$Tape" "length" "I") (List.mem_cons_of_mem _ (List.mem_append_left _ (List.mem_of_getElem? (i := 0) rfl)))
  have k2 := C.2.2.2.2.1 (.fieldLink RX4 9 "PulpitRoads$Tape" "bytes" "[I") (List.mem_cons_of_mem _ (List.mem_append_left _ (List.mem_of_getElem? (i := 1) rfl)))
  unfold fn_X4_add at h
  refine pw_aload_n C dX4_add_0 rfl 0 rfl ?_
  refine pw_get (v := .int (μ 2 1)) C iX4 (by decide) (pw_sh_2 _) rfl 1 (by decide) k1 rfl dX4_add_1 ?_
  refine pw_bipush (v := (90 : Int32)) C dX4_add_4 (by decide) ?_
  refine pw_icmp_ge (tgt := 29) C dX4_add_6 (by decide) (fun c6 => ?_) (fun c6 => ?_)
  · have h := fn_pos c6 h
    exact pw_vret C h dX4_add_29
  · have h := fn_neg c6 h
    refine pw_aload_n C dX4_add_9 rfl 0 rfl ?_
    refine pw_get (v := .ref (gad G 3)) C iX4 (by decide) (pw_sh_2 _) rfl 0 (by decide) k2 rfl dX4_add_10 ?_
    refine pw_aload_n C dX4_add_13 rfl 0 rfl ?_
    refine pw_get (v := .int (μ 2 1)) C iX4 (by decide) (pw_sh_2 _) rfl 1 (by decide) k1 rfl dX4_add_14 ?_
    refine pw_iload_n C dX4_add_17 rfl 1 rfl ?_
    obtain ⟨hi18, h⟩ := fn_ix_s h
    refine pw_iast C (by decide) pw_sh_3 hi18 dX4_add_18 ?_
    refine pw_aload_n C dX4_add_19 rfl 0 rfl ?_
    refine pw_dup C dX4_add_20 rfl ?_
    refine pw_get (v := .int ((pw_st μ 3 ((μ 2 1)).toNatClampNeg a1) 2 1)) C iX4 (by decide) (pw_sh_2 _) rfl 1 (by decide) k1 rfl dX4_add_21 ?_
    refine pw_iconst (v := (1 : Int32)) C dX4_add_24 (by decide) ?_
    refine pw_iadd C dX4_add_25 ?_
    refine pw_put (host := "PulpitRoads") (ty := .int) C iX4 tyX4 tyX4_ok nmX4 (by decide) (pw_sh_2 _) rfl 1 (by decide) (pw_sh_2 _) k1 rfl (by decide +kernel) (fn_int _) (Nat.le_of_ble_eq_true rfl) dX4_add_26 ?_
    exact pw_vret C h dX4_add_29
set_option maxHeartbeats 4000000 in
set_option maxRecDepth 100000 in
theorem ct_X4_blame (l : Launch) {G : pw_G} (hG : pw_Ok G) {a1 : Int32}  {μ μ' : pw_Mem} {r : Int32} (h : fn_X4_blame a1 μ = some (r, μ')) : Met l yX4_blame wsX4_blame ({ frames := 0, cells := 0, slots := 0, locals := 0 }) (va_Pc [.ref (gad G 2), .int a1] (pw_Pre G μ)) (va_Qi (fun (r1 : Int32) (u : pw_Mem) => r1 = r ∧ u = μ') (pw_B G) (gA G)) 0 0 (gA G) := by
  refine pw_met (lv := [(0, .ref (gad G 2)), (1, .int a1)]) (own := RX4) (cc := cX4_blame) (maxL := 2) (ret := some .boolean) hG rfl (by decide) rfl rfl (Nat.le_of_ble_eq_true rfl) ?_
  intro p e s m below meth c C
  have iX4 : ∀ w ∈ u_ws RX4 TX4 4, w ∈ wsX4_blame := fun _ h => List.mem_cons_of_mem _ (List.mem_append_right _ (h))
  have k1 := C.2.2.2.2.1 (.fieldLink RX4 27 "PulpitRoads$Tape" "faultNumber" "I") (List.mem_cons_of_mem _ (List.mem_append_left _ (List.mem_of_getElem? (i := 0) rfl)))
  unfold fn_X4_blame at h
  refine pw_aload_n C dX4_blame_0 rfl 0 rfl ?_
  refine pw_iload_n C dX4_blame_1 rfl 1 rfl ?_
  refine pw_put (host := "PulpitRoads") (ty := .int) C iX4 tyX4 tyX4_ok nmX4 (by decide) (pw_sh_2 _) rfl 3 (by decide) (pw_sh_2 _) k1 rfl (by decide +kernel) (fn_int _) (Nat.le_of_ble_eq_true rfl) dX4_blame_2 ?_
  refine pw_iconst (v := (0 : Int32)) C dX4_blame_5 (by decide) ?_
  obtain ⟨hz6, h⟩ := fn_bz_s h
  exact pw_zret C hz6 h dX4_blame_6
set_option maxHeartbeats 4000000 in
set_option maxRecDepth 100000 in
theorem ct_X4_letterAt (l : Launch) {G : pw_G} (hG : pw_Ok G) {a1 : Int32}  {μ μ' : pw_Mem} {r : Int32} (h : fn_X4_letterAt a1 μ = some (r, μ')) : Met l yX4_letterAt wsX4_letterAt ({ frames := 0, cells := 0, slots := 0, locals := 0 }) (va_Pc [.ref (gad G 2), .int a1] (pw_Pre G μ)) (va_Qi (fun (r1 : Int32) (u : pw_Mem) => r1 = r ∧ u = μ') (pw_B G) (gA G)) 0 0 (gA G) := by
  refine pw_met (lv := [(0, .ref (gad G 2)), (1, .int a1)]) (own := RX4) (cc := cX4_letterAt) (maxL := 2) (ret := some .int) hG rfl (by decide) rfl rfl (Nat.le_of_ble_eq_true rfl) ?_
  intro p e s m below meth c C
  have iX4 : ∀ w ∈ u_ws RX4 TX4 4, w ∈ wsX4_letterAt := fun _ h => List.mem_cons_of_mem _ (List.mem_append_right _ (h))
  have k1 := C.2.2.2.2.1 (.fieldLink RX4 15 "PulpitRoads$Tape" "length" "I") (List.mem_cons_of_mem _ (List.mem_append_left _ (List.mem_of_getElem? (i := 0) rfl)))
  have k2 := C.2.2.2.2.1 (.fieldLink RX4 9 "PulpitRoads$Tape" "bytes" "[I") (List.mem_cons_of_mem _ (List.mem_append_left _ (List.mem_of_getElem? (i := 1) rfl)))
  unfold fn_X4_letterAt at h
  refine pw_iload_n C dX4_letterAt_0 rfl 1 rfl ?_
  refine pw_if_lt (tgt := 21) C dX4_letterAt_1 (by decide) (fun c1 => ?_) (fun c1 => ?_)
  · have h := fn_pos c1 h
    refine pw_iconst (v := (-1 : Int32)) C dX4_letterAt_21 (by decide) ?_
    exact pw_iret C h dX4_letterAt_22
  · have h := fn_neg c1 h
    refine pw_iload_n C dX4_letterAt_4 rfl 1 rfl ?_
    refine pw_aload_n C dX4_letterAt_5 rfl 0 rfl ?_
    refine pw_get (v := .int (μ 2 1)) C iX4 (by decide) (pw_sh_2 _) rfl 1 (by decide) k1 rfl dX4_letterAt_6 ?_
    refine pw_icmp_ge (tgt := 21) C dX4_letterAt_9 (by decide) (fun c9 => ?_) (fun c9 => ?_)
    · have h := fn_pos c9 h
      refine pw_iconst (v := (-1 : Int32)) C dX4_letterAt_21 (by decide) ?_
      exact pw_iret C h dX4_letterAt_22
    · have h := fn_neg c9 h
      refine pw_aload_n C dX4_letterAt_12 rfl 0 rfl ?_
      refine pw_get (v := .ref (gad G 3)) C iX4 (by decide) (pw_sh_2 _) rfl 0 (by decide) k2 rfl dX4_letterAt_13 ?_
      refine pw_iload_n C dX4_letterAt_16 rfl 1 rfl ?_
      obtain ⟨hi17, h⟩ := fn_ix_s h
      refine pw_iald C (by decide) (pw_sh_3 _) hi17 dX4_letterAt_17 ?_
      refine pw_goto (tgt := 22) C dX4_letterAt_18 (by decide) ?_
      exact pw_iret C h dX4_letterAt_22
set_option maxHeartbeats 4000000 in
set_option maxRecDepth 100000 in
theorem ct_X4_isFigure (l : Launch) {G : pw_G} (hG : pw_Ok G) {a1 : Int32}  {μ μ' : pw_Mem} {r : Int32} (h : fn_X4_isFigure a1 μ = some (r, μ')) : Met l yX4_isFigure wsX4_isFigure ({ frames := 1, cells := 0, slots := 0, locals := 21 }) (va_Pc [.ref (gad G 2), .int a1] (pw_Pre G μ)) (va_Qi (fun (r1 : Int32) (u : pw_Mem) => r1 = r ∧ u = μ') (pw_B G) (gA G)) 0 0 (gA G) := by
  refine pw_met (lv := [(0, .ref (gad G 2)), (1, .int a1)]) (own := RX4) (cc := cX4_isFigure) (maxL := 3) (ret := some .boolean) hG rfl (by decide) rfl rfl (Nat.le_of_ble_eq_true rfl) ?_
  intro p e s m below meth c C
  unfold fn_X4_isFigure at h
  refine pw_aload_n C dX4_isFigure_0 rfl 0 rfl ?_
  refine pw_iload_n C dX4_isFigure_1 rfl 1 rfl ?_
  obtain ⟨r2, m2, hc2, h⟩ := fn_bi_s h
  refine pw_callVi (rest := []) C (by decide) (pw_sh_2 _) rfl (ct_X4_letterAt l C.2.2.2.2.2.2.2.2 hc2) (cwV 1 C.2.2.2.2.1 gX4_isFigure_X4_letterAt rfl rfl rfl (by decide +kernel) ⟨Nat.le_of_ble_eq_true rfl, Nat.le_of_ble_eq_true rfl⟩) rfl rfl (Nat.le_of_ble_eq_true rfl) dX4_isFigure_2 ?_
  refine pw_istore_n (lv' := [(2, .int r2), (0, .ref (gad G 2)), (1, .int a1)]) C dX4_isFigure_5 rfl (by decide) rfl ?_
  refine pw_iload_n C dX4_isFigure_6 rfl 0 rfl ?_
  refine pw_bipush (v := (48 : Int32)) C dX4_isFigure_7 (by decide) ?_
  refine pw_icmp_lt (tgt := 22) C dX4_isFigure_9 (by decide) (fun c9 => ?_) (fun c9 => ?_)
  · have h := fn_pos c9 h
    refine pw_iconst (v := (0 : Int32)) C dX4_isFigure_22 (by decide) ?_
    obtain ⟨hz23, h⟩ := fn_bz_s h
    exact pw_zret C hz23 h dX4_isFigure_23
  · have h := fn_neg c9 h
    refine pw_iload_n C dX4_isFigure_12 rfl 0 rfl ?_
    refine pw_bipush (v := (57 : Int32)) C dX4_isFigure_13 (by decide) ?_
    refine pw_icmp_gt (tgt := 22) C dX4_isFigure_15 (by decide) (fun c15 => ?_) (fun c15 => ?_)
    · have h := fn_pos c15 h
      refine pw_iconst (v := (0 : Int32)) C dX4_isFigure_22 (by decide) ?_
      obtain ⟨hz23, h⟩ := fn_bz_s h
      exact pw_zret C hz23 h dX4_isFigure_23
    · have h := fn_neg c15 h
      refine pw_iconst (v := (1 : Int32)) C dX4_isFigure_18 (by decide) ?_
      refine pw_goto (tgt := 23) C dX4_isFigure_19 (by decide) ?_
      obtain ⟨hz23, h⟩ := fn_bz_s h
      exact pw_zret C hz23 h dX4_isFigure_23
set_option maxHeartbeats 4000000 in
set_option maxRecDepth 100000 in
theorem ct_X4_takeNumber (l : Launch) {G : pw_G} (hG : pw_Ok G) {a1 : Int32} {a2 : Int32}  {μ μ' : pw_Mem} {r : Int32} (h : fn_X4_takeNumber a1 a2 μ = some (r, μ')) : Met l yX4_takeNumber wsX4_takeNumber ({ frames := 2, cells := 0, slots := 0, locals := 43 }) (va_Pc [.ref (gad G 2), .int a1, .int a2] (pw_Pre G μ)) (va_Qi (fun (r1 : Int32) (u : pw_Mem) => r1 = r ∧ u = μ') (pw_B G) (gA G)) 0 0 (gA G) := by
  refine pw_met (lv := [(0, .ref (gad G 2)), (1, .int a1), (2, .int a2)]) (own := RX4) (cc := cX4_takeNumber) (maxL := 5) (ret := some .int) hG rfl (by decide) rfl rfl (Nat.le_of_ble_eq_true rfl) ?_
  intro p e s m below meth c C
  have iX4 : ∀ w ∈ u_ws RX4 TX4 4, w ∈ wsX4_takeNumber := fun _ h => List.mem_cons_of_mem _ (List.mem_append_right _ (h))
  have k1 := C.2.2.2.2.1 (.fieldLink RX4 24 "PulpitRoads$Tape" "place" "I") (List.mem_cons_of_mem _ (List.mem_append_left _ (List.mem_of_getElem? (i := 0) rfl)))
  have k2 := C.2.2.2.2.1 (.fieldLink RX4 9 "PulpitRoads$Tape" "bytes" "[I") (List.mem_cons_of_mem _ (List.mem_append_left _ (List.mem_of_getElem? (i := 1) rfl)))
  unfold fn_X4_takeNumber at h
  refine pw_aload_n C dX4_takeNumber_0 rfl 0 rfl ?_
  refine pw_aload_n C dX4_takeNumber_1 rfl 0 rfl ?_
  refine pw_get (v := .int (μ 2 2)) C iX4 (by decide) (pw_sh_2 _) rfl 2 (by decide) k1 rfl dX4_takeNumber_2 ?_
  obtain ⟨r5, m5, hc5, h⟩ := fn_bi_s h
  refine pw_callVi (rest := []) C (by decide) (pw_sh_2 _) rfl (ct_X4_isFigure l C.2.2.2.2.2.2.2.2 hc5) (cwV 1 C.2.2.2.2.1 gX4_takeNumber_X4_isFigure rfl rfl rfl (by decide +kernel) ⟨Nat.le_of_ble_eq_true rfl, Nat.le_of_ble_eq_true rfl⟩) rfl rfl (Nat.le_of_ble_eq_true rfl) dX4_takeNumber_5 ?_
  refine pw_if_eq (tgt := 37) C dX4_takeNumber_8 (by decide) (fun c8 => ?_) (fun c8 => ?_)
  · have h := fn_pos c8 h
    refine pw_aload_n C dX4_takeNumber_37 rfl 0 rfl ?_
    refine pw_iconst (v := (1 : Int32)) C dX4_takeNumber_38 (by decide) ?_
    obtain ⟨r39, m39, hc39, h⟩ := fn_bi_s h
    refine pw_callVi (rest := []) C (by decide) (pw_sh_2 _) rfl (ct_X4_blame l C.2.2.2.2.2.2.2.2 hc39) (cwV 1 C.2.2.2.2.1 gX4_takeNumber_X4_blame rfl rfl rfl (by decide +kernel) ⟨Nat.le_of_ble_eq_true rfl, Nat.le_of_ble_eq_true rfl⟩) rfl rfl (Nat.le_of_ble_eq_true rfl) dX4_takeNumber_39 ?_
    refine pw_pop C dX4_takeNumber_42 rfl ?_
    refine pw_iload_n C dX4_takeNumber_43 rfl 1 rfl ?_
    exact pw_iret C h dX4_takeNumber_44
  · have h := fn_neg c8 h
    refine pw_aload_n C dX4_takeNumber_11 rfl 0 rfl ?_
    refine pw_aload_n C dX4_takeNumber_12 rfl 0 rfl ?_
    refine pw_get (v := .int (m5 2 2)) C iX4 (by decide) (pw_sh_2 _) rfl 2 (by decide) k1 rfl dX4_takeNumber_13 ?_
    refine pw_iconst (v := (1 : Int32)) C dX4_takeNumber_16 (by decide) ?_
    refine pw_iadd C dX4_takeNumber_17 ?_
    obtain ⟨r18, m18, hc18, h⟩ := fn_bi_s h
    refine pw_callVi (rest := []) C (by decide) (pw_sh_2 _) rfl (ct_X4_isFigure l C.2.2.2.2.2.2.2.2 hc18) (cwV 1 C.2.2.2.2.1 gX4_takeNumber_X4_isFigure rfl rfl rfl (by decide +kernel) ⟨Nat.le_of_ble_eq_true rfl, Nat.le_of_ble_eq_true rfl⟩) rfl rfl (Nat.le_of_ble_eq_true rfl) dX4_takeNumber_18 ?_
    refine fn_jn0_s (fun m45 => pw_Go p l e ({ frames := 2, cells := 0, slots := 0, locals := 43 }) s m (([.ref (gad G 2), .int a1, .int a2] : List Value).toArray) below meth c (MQ below (va_Qi (fun (r1 : Int32) (u : pw_Mem) => r1 = r ∧ u = μ') (pw_B G) (gA G)) (([.ref (gad G 2), .int a1, .int a2] : List Value).toArray) s 0 0 (gA G)) G 5 45 [(0, .ref (gad G 2)), (1, .int a1), (2, .int a2)] [] m45) h (fun m45 h => ?_) (fun k45 hk45 h => ?_)
    · refine pw_aload_n C dX4_takeNumber_45 rfl 0 rfl ?_
      refine pw_get (v := .ref (gad G 3)) C iX4 (by decide) (pw_sh_2 _) rfl 0 (by decide) k2 rfl dX4_takeNumber_46 ?_
      refine pw_aload_n C dX4_takeNumber_49 rfl 0 rfl ?_
      refine pw_get (v := .int (m45 2 2)) C iX4 (by decide) (pw_sh_2 _) rfl 2 (by decide) k1 rfl dX4_takeNumber_50 ?_
      obtain ⟨hi53, h⟩ := fn_ix_s h
      refine pw_iald C (by decide) (pw_sh_3 _) hi53 dX4_takeNumber_53 ?_
      refine pw_bipush (v := (48 : Int32)) C dX4_takeNumber_54 (by decide) ?_
      refine pw_isub C dX4_takeNumber_56 ?_
      refine pw_istore_n (lv' := [(3, .int ((m45 3 ((m45 2 2)).toNatClampNeg) - (48 : Int32))), (0, .ref (gad G 2)), (1, .int a1), (2, .int a2)]) C dX4_takeNumber_57 rfl (by decide) rfl ?_
      refine pw_aload_n C dX4_takeNumber_58 rfl 1 rfl ?_
      refine pw_get (v := .int (m45 2 2)) C iX4 (by decide) (pw_sh_2 _) rfl 2 (by decide) k1 rfl dX4_takeNumber_59 ?_
      refine pw_iconst (v := (1 : Int32)) C dX4_takeNumber_62 (by decide) ?_
      refine pw_iadd C dX4_takeNumber_63 ?_
      refine pw_istore (lv' := [(4, .int ((m45 2 2) + (1 : Int32))), (3, .int ((m45 3 ((m45 2 2)).toNatClampNeg) - (48 : Int32))), (0, .ref (gad G 2)), (1, .int a1), (2, .int a2)]) C dX4_takeNumber_64 (by decide) rfl ?_
      refine pw_aload_n C dX4_takeNumber_66 rfl 2 rfl ?_
      refine pw_iload C dX4_takeNumber_67 0 rfl ?_
      obtain ⟨r69, m69, hc69, h⟩ := fn_bi_s h
      refine pw_callVi (rest := []) C (by decide) (pw_sh_2 _) rfl (ct_X4_isFigure l C.2.2.2.2.2.2.2.2 hc69) (cwV 1 C.2.2.2.2.1 gX4_takeNumber_X4_isFigure rfl rfl rfl (by decide +kernel) ⟨Nat.le_of_ble_eq_true rfl, Nat.le_of_ble_eq_true rfl⟩) rfl rfl (Nat.le_of_ble_eq_true rfl) dX4_takeNumber_69 ?_
      refine fn_jn2_s (fun x94_0 x94_1 m94 => pw_Go p l e ({ frames := 2, cells := 0, slots := 0, locals := 43 }) s m (([.ref (gad G 2), .int a1, .int a2] : List Value).toArray) below meth c (MQ below (va_Qi (fun (r1 : Int32) (u : pw_Mem) => r1 = r ∧ u = μ') (pw_B G) (gA G)) (([.ref (gad G 2), .int a1, .int a2] : List Value).toArray) s 0 0 (gA G)) G 5 94 [(0, .ref (gad G 2)), (1, .int a1), (2, .int a2), (3, .int x94_0), (4, .int x94_1)] [] m94) h (fun x94_0 x94_1 m94 h => ?_) (fun k94 hk94 h => ?_)
      · refine pw_iload_n C dX4_takeNumber_94 rfl 3 rfl ?_
        refine pw_iload_n C dX4_takeNumber_95 rfl 1 rfl ?_
        refine pw_icmp_lt (tgt := 104) C dX4_takeNumber_96 (by decide) (fun c96 => ?_) (fun c96 => ?_)
        · have h := fn_pos c96 h
          refine pw_aload_n C dX4_takeNumber_104 rfl 0 rfl ?_
          refine pw_iconst (v := (2 : Int32)) C dX4_takeNumber_105 (by decide) ?_
          obtain ⟨r106, m106, hc106, h⟩ := fn_bi_s h
          refine pw_callVi (rest := []) C (by decide) (pw_sh_2 _) rfl (ct_X4_blame l C.2.2.2.2.2.2.2.2 hc106) (cwV 1 C.2.2.2.2.1 gX4_takeNumber_X4_blame rfl rfl rfl (by decide +kernel) ⟨Nat.le_of_ble_eq_true rfl, Nat.le_of_ble_eq_true rfl⟩) rfl rfl (Nat.le_of_ble_eq_true rfl) dX4_takeNumber_106 ?_
          refine pw_pop C dX4_takeNumber_109 rfl ?_
          refine pw_iload_n C dX4_takeNumber_110 rfl 1 rfl ?_
          exact pw_iret C h dX4_takeNumber_111
        · have h := fn_neg c96 h
          refine pw_iload_n C dX4_takeNumber_99 rfl 3 rfl ?_
          refine pw_iload_n C dX4_takeNumber_100 rfl 2 rfl ?_
          refine pw_icmp_le (tgt := 112) C dX4_takeNumber_101 (by decide) (fun c101 => ?_) (fun c101 => ?_)
          · have h := fn_pos c101 h
            refine pw_aload_n C dX4_takeNumber_112 rfl 0 rfl ?_
            refine pw_iload C dX4_takeNumber_113 4 rfl ?_
            refine pw_put (host := "PulpitRoads") (ty := .int) C iX4 tyX4 tyX4_ok nmX4 (by decide) (pw_sh_2 _) rfl 2 (by decide) (pw_sh_2 _) k1 rfl (by decide +kernel) (fn_int _) (Nat.le_of_ble_eq_true rfl) dX4_takeNumber_115 ?_
            refine pw_iload_n C dX4_takeNumber_118 rfl 3 rfl ?_
            exact pw_iret C h dX4_takeNumber_119
          · have h := fn_neg c101 h
            refine pw_aload_n C dX4_takeNumber_104 rfl 0 rfl ?_
            refine pw_iconst (v := (2 : Int32)) C dX4_takeNumber_105 (by decide) ?_
            obtain ⟨r106, m106, hc106, h⟩ := fn_bi_s h
            refine pw_callVi (rest := []) C (by decide) (pw_sh_2 _) rfl (ct_X4_blame l C.2.2.2.2.2.2.2.2 hc106) (cwV 1 C.2.2.2.2.1 gX4_takeNumber_X4_blame rfl rfl rfl (by decide +kernel) ⟨Nat.le_of_ble_eq_true rfl, Nat.le_of_ble_eq_true rfl⟩) rfl rfl (Nat.le_of_ble_eq_true rfl) dX4_takeNumber_106 ?_
            refine pw_pop C dX4_takeNumber_109 rfl ?_
            refine pw_iload_n C dX4_takeNumber_110 rfl 1 rfl ?_
            exact pw_iret C h dX4_takeNumber_111
      · refine pw_if_eq (tgt := 94) C dX4_takeNumber_72 (by decide) (fun c72 => ?_) (fun c72 => ?_)
        · have h := fn_pos c72 h
          refine pw_sub [2, 3, 4, 1, 0] rfl ?_
          exact hk94 _ _ _ h
        · have h := fn_neg c72 h
          refine pw_iload_n C dX4_takeNumber_75 rfl 1 rfl ?_
          refine pw_bipush (v := (10 : Int32)) C dX4_takeNumber_76 (by decide) ?_
          refine pw_imul C dX4_takeNumber_78 ?_
          refine pw_aload_n C dX4_takeNumber_79 rfl 2 rfl ?_
          refine pw_get (v := .ref (gad G 3)) C iX4 (by decide) (pw_sh_2 _) rfl 0 (by decide) k2 rfl dX4_takeNumber_80 ?_
          refine pw_iload C dX4_takeNumber_83 0 rfl ?_
          obtain ⟨hi85, h⟩ := fn_ix_s h
          refine pw_iald C (by decide) (pw_sh_3 _) hi85 dX4_takeNumber_85 ?_
          refine pw_iadd C dX4_takeNumber_86 ?_
          refine pw_bipush (v := (48 : Int32)) C dX4_takeNumber_87 (by decide) ?_
          refine pw_isub C dX4_takeNumber_89 ?_
          refine pw_istore_n (lv' := [(3, .int (((((m45 3 ((m45 2 2)).toNatClampNeg) - (48 : Int32)) * (10 : Int32)) + (m69 3 (((m45 2 2) + (1 : Int32))).toNatClampNeg)) - (48 : Int32))), (4, .int ((m45 2 2) + (1 : Int32))), (0, .ref (gad G 2)), (1, .int a1), (2, .int a2)]) C dX4_takeNumber_90 rfl (by decide) rfl ?_
          refine pw_iinc (v := (((m45 2 2) + (1 : Int32)) + 1)) (lv' := [(4, .int (((m45 2 2) + (1 : Int32)) + 1)), (3, .int (((((m45 3 ((m45 2 2)).toNatClampNeg) - (48 : Int32)) * (10 : Int32)) + (m69 3 (((m45 2 2) + (1 : Int32))).toNatClampNeg)) - (48 : Int32))), (0, .ref (gad G 2)), (1, .int a1), (2, .int a2)]) C dX4_takeNumber_91 (q := 1) rfl rfl (by decide) rfl ?_
          refine pw_sub [2, 3, 4, 1, 0] rfl ?_
          exact hk94 _ _ _ h
    · refine pw_if_eq (tgt := 45) C dX4_takeNumber_21 (by decide) (fun c21 => ?_) (fun c21 => ?_)
      · have h := fn_pos c21 h
        exact hk45 _ h
      · have h := fn_neg c21 h
        refine pw_aload_n C dX4_takeNumber_24 rfl 0 rfl ?_
        refine pw_aload_n C dX4_takeNumber_25 rfl 0 rfl ?_
        refine pw_get (v := .int (m18 2 2)) C iX4 (by decide) (pw_sh_2 _) rfl 2 (by decide) k1 rfl dX4_takeNumber_26 ?_
        refine pw_iconst (v := (2 : Int32)) C dX4_takeNumber_29 (by decide) ?_
        refine pw_iadd C dX4_takeNumber_30 ?_
        obtain ⟨r31, m31, hc31, h⟩ := fn_bi_s h
        refine pw_callVi (rest := []) C (by decide) (pw_sh_2 _) rfl (ct_X4_isFigure l C.2.2.2.2.2.2.2.2 hc31) (cwV 1 C.2.2.2.2.1 gX4_takeNumber_X4_isFigure rfl rfl rfl (by decide +kernel) ⟨Nat.le_of_ble_eq_true rfl, Nat.le_of_ble_eq_true rfl⟩) rfl rfl (Nat.le_of_ble_eq_true rfl) dX4_takeNumber_31 ?_
        refine pw_if_eq (tgt := 45) C dX4_takeNumber_34 (by decide) (fun c34 => ?_) (fun c34 => ?_)
        · have h := fn_pos c34 h
          exact hk45 _ h
        · have h := fn_neg c34 h
          refine pw_aload_n C dX4_takeNumber_37 rfl 0 rfl ?_
          refine pw_iconst (v := (1 : Int32)) C dX4_takeNumber_38 (by decide) ?_
          obtain ⟨r39, m39, hc39, h⟩ := fn_bi_s h
          refine pw_callVi (rest := []) C (by decide) (pw_sh_2 _) rfl (ct_X4_blame l C.2.2.2.2.2.2.2.2 hc39) (cwV 1 C.2.2.2.2.1 gX4_takeNumber_X4_blame rfl rfl rfl (by decide +kernel) ⟨Nat.le_of_ble_eq_true rfl, Nat.le_of_ble_eq_true rfl⟩) rfl rfl (Nat.le_of_ble_eq_true rfl) dX4_takeNumber_39 ?_
          refine pw_pop C dX4_takeNumber_42 rfl ?_
          refine pw_iload_n C dX4_takeNumber_43 rfl 1 rfl ?_
          exact pw_iret C h dX4_takeNumber_44
set_option maxHeartbeats 4000000 in
set_option maxRecDepth 100000 in
theorem ct_X4_letterHere (l : Launch) {G : pw_G} (hG : pw_Ok G)   {μ μ' : pw_Mem} {r : Int32} (h : fn_X4_letterHere μ = some (r, μ')) : Met l yX4_letterHere wsX4_letterHere ({ frames := 1, cells := 0, slots := 0, locals := 21 }) (va_Pc [.ref (gad G 2)] (pw_Pre G μ)) (va_Qi (fun (r1 : Int32) (u : pw_Mem) => r1 = r ∧ u = μ') (pw_B G) (gA G)) 0 0 (gA G) := by
  refine pw_met (lv := [(0, .ref (gad G 2))]) (own := RX4) (cc := cX4_letterHere) (maxL := 1) (ret := some .int) hG rfl (by decide) rfl rfl (Nat.le_of_ble_eq_true rfl) ?_
  intro p e s m below meth c C
  have iX4 : ∀ w ∈ u_ws RX4 TX4 4, w ∈ wsX4_letterHere := fun _ h => List.mem_cons_of_mem _ (List.mem_append_right _ (h))
  have k1 := C.2.2.2.2.1 (.fieldLink RX4 24 "PulpitRoads$Tape" "place" "I") (List.mem_cons_of_mem _ (List.mem_append_left _ (List.mem_of_getElem? (i := 0) rfl)))
  unfold fn_X4_letterHere at h
  refine pw_aload_n C dX4_letterHere_0 rfl 0 rfl ?_
  refine pw_aload_n C dX4_letterHere_1 rfl 0 rfl ?_
  refine pw_get (v := .int (μ 2 2)) C iX4 (by decide) (pw_sh_2 _) rfl 2 (by decide) k1 rfl dX4_letterHere_2 ?_
  obtain ⟨r5, m5, hc5, h⟩ := fn_bi_s h
  refine pw_callVi (rest := []) C (by decide) (pw_sh_2 _) rfl (ct_X4_letterAt l C.2.2.2.2.2.2.2.2 hc5) (cwV 1 C.2.2.2.2.1 gX4_letterHere_X4_letterAt rfl rfl rfl (by decide +kernel) ⟨Nat.le_of_ble_eq_true rfl, Nat.le_of_ble_eq_true rfl⟩) rfl rfl (Nat.le_of_ble_eq_true rfl) dX4_letterHere_5 ?_
  exact pw_iret C h dX4_letterHere_8
set_option maxHeartbeats 4000000 in
set_option maxRecDepth 100000 in
theorem ct_X4_takeSign (l : Launch) {G : pw_G} (hG : pw_Ok G) {a1 : Int32}  {μ μ' : pw_Mem} {r : Int32} (h : fn_X4_takeSign a1 μ = some (r, μ')) : Met l yX4_takeSign wsX4_takeSign ({ frames := 2, cells := 0, slots := 0, locals := 41 }) (va_Pc [.ref (gad G 2), .int a1] (pw_Pre G μ)) (va_Qi (fun (r1 : Int32) (u : pw_Mem) => r1 = r ∧ u = μ') (pw_B G) (gA G)) 0 0 (gA G) := by
  refine pw_met (lv := [(0, .ref (gad G 2)), (1, .int a1)]) (own := RX4) (cc := cX4_takeSign) (maxL := 2) (ret := some .boolean) hG rfl (by decide) rfl rfl (Nat.le_of_ble_eq_true rfl) ?_
  intro p e s m below meth c C
  have iX4 : ∀ w ∈ u_ws RX4 TX4 4, w ∈ wsX4_takeSign := fun _ h => List.mem_cons_of_mem _ (List.mem_append_right _ (h))
  have k1 := C.2.2.2.2.1 (.fieldLink RX4 24 "PulpitRoads$Tape" "place" "I") (List.mem_cons_of_mem _ (List.mem_append_left _ (List.mem_of_getElem? (i := 0) rfl)))
  unfold fn_X4_takeSign at h
  refine pw_aload_n C dX4_takeSign_0 rfl 0 rfl ?_
  obtain ⟨r1, m1, hc1, h⟩ := fn_bi_s h
  refine pw_callVi (rest := []) C (by decide) (pw_sh_2 _) rfl (ct_X4_letterHere l C.2.2.2.2.2.2.2.2 hc1) (cwV 0 C.2.2.2.2.1 gX4_takeSign_X4_letterHere rfl rfl rfl (by decide +kernel) ⟨Nat.le_of_ble_eq_true rfl, Nat.le_of_ble_eq_true rfl⟩) rfl rfl (Nat.le_of_ble_eq_true rfl) dX4_takeSign_1 ?_
  refine pw_iload_n C dX4_takeSign_4 rfl 1 rfl ?_
  refine pw_icmp_eq (tgt := 14) C dX4_takeSign_5 (by decide) (fun c5 => ?_) (fun c5 => ?_)
  · have h := fn_pos c5 h
    refine pw_aload_n C dX4_takeSign_14 rfl 0 rfl ?_
    refine pw_dup C dX4_takeSign_15 rfl ?_
    refine pw_get (v := .int (m1 2 2)) C iX4 (by decide) (pw_sh_2 _) rfl 2 (by decide) k1 rfl dX4_takeSign_16 ?_
    refine pw_iconst (v := (1 : Int32)) C dX4_takeSign_19 (by decide) ?_
    refine pw_iadd C dX4_takeSign_20 ?_
    refine pw_put (host := "PulpitRoads") (ty := .int) C iX4 tyX4 tyX4_ok nmX4 (by decide) (pw_sh_2 _) rfl 2 (by decide) (pw_sh_2 _) k1 rfl (by decide +kernel) (fn_int _) (Nat.le_of_ble_eq_true rfl) dX4_takeSign_21 ?_
    refine pw_iconst (v := (1 : Int32)) C dX4_takeSign_24 (by decide) ?_
    obtain ⟨hz25, h⟩ := fn_bz_s h
    exact pw_zret C hz25 h dX4_takeSign_25
  · have h := fn_neg c5 h
    refine pw_aload_n C dX4_takeSign_8 rfl 0 rfl ?_
    refine pw_iconst (v := (1 : Int32)) C dX4_takeSign_9 (by decide) ?_
    obtain ⟨r10, m10, hc10, h⟩ := fn_bi_s h
    refine pw_callVi (rest := []) C (by decide) (pw_sh_2 _) rfl (ct_X4_blame l C.2.2.2.2.2.2.2.2 hc10) (cwV 1 C.2.2.2.2.1 gX4_takeSign_X4_blame rfl rfl rfl (by decide +kernel) ⟨Nat.le_of_ble_eq_true rfl, Nat.le_of_ble_eq_true rfl⟩) rfl rfl (Nat.le_of_ble_eq_true rfl) dX4_takeSign_10 ?_
    obtain ⟨hz13, h⟩ := fn_bz_s h
    exact pw_zret C hz13 h dX4_takeSign_13
set_option maxHeartbeats 4000000 in
set_option maxRecDepth 100000 in
theorem ct_X4_readLaw (l : Launch) {G : pw_G} (hG : pw_Ok G) {o1 : Nat} (ho1 : pw_KD o1) {μ μ' : pw_Mem} {r : Int32} (h : fn_X4_readLaw o1 μ = some (r, μ')) : Met l yX4_readLaw wsX4_readLaw ({ frames := 3, cells := 0, slots := 0, locals := 67 }) (va_Pc [.ref (gad G 2), .ref (gad G o1)] (pw_Pre G μ)) (va_Qi (fun (r1 : Int32) (u : pw_Mem) => r1 = r ∧ u = μ') (pw_B G) (gA G)) 0 0 (gA G) := by
  refine pw_met (lv := [(0, .ref (gad G 2)), (1, .ref (gad G o1))]) (own := RX4) (cc := cX4_readLaw) (maxL := 2) (ret := some .boolean) hG rfl (by decide) rfl rfl (Nat.le_of_ble_eq_true rfl) ?_
  intro p e s m below meth c C
  have iX2 : ∀ w ∈ u_ws RX2 TX2 12, w ∈ wsX4_readLaw := fun _ h => List.mem_cons_of_mem _ (List.mem_append_left _ (List.mem_append_right _ (h)))
  have iX4 : ∀ w ∈ u_ws RX4 TX4 4, w ∈ wsX4_readLaw := fun _ h => List.mem_cons_of_mem _ (List.mem_append_right _ (h))
  have k1 := C.2.2.2.2.1 (.fieldLink RX4 27 "PulpitRoads$Tape" "faultNumber" "I") (List.mem_cons_of_mem _ (List.mem_append_left _ (List.mem_append_left _ (List.mem_append_left _ (List.mem_of_getElem? (i := 0) rfl)))))
  unfold fn_X4_readLaw at h
  refine pw_aload_n C dX4_readLaw_0 rfl 0 rfl ?_
  refine pw_bipush (v := (112 : Int32)) C dX4_readLaw_1 (by decide) ?_
  obtain ⟨r3, m3, hc3, h⟩ := fn_bi_s h
  refine pw_callVi (rest := []) C (by decide) (pw_sh_2 _) rfl (ct_X4_takeSign l C.2.2.2.2.2.2.2.2 hc3) (cwV 1 C.2.2.2.2.1 gX4_readLaw_X4_takeSign rfl rfl rfl (by decide +kernel) ⟨Nat.le_of_ble_eq_true rfl, Nat.le_of_ble_eq_true rfl⟩) rfl rfl (Nat.le_of_ble_eq_true rfl) dX4_readLaw_3 ?_
  refine pw_if_ne (tgt := 11) C dX4_readLaw_6 (by decide) (fun c6 => ?_) (fun c6 => ?_)
  · have h := fn_pos c6 h
    refine pw_aload_n C dX4_readLaw_11 rfl 1 rfl ?_
    refine pw_aload_n C dX4_readLaw_12 rfl 0 rfl ?_
    refine pw_iconst (v := (4 : Int32)) C dX4_readLaw_13 (by decide) ?_
    refine pw_bipush (v := (16 : Int32)) C dX4_readLaw_14 (by decide) ?_
    obtain ⟨r16, m16, hc16, h⟩ := fn_bi_s h
    refine pw_callVi (rest := [.ref (gad G o1)]) C (by decide) (pw_sh_2 _) rfl (ct_X4_takeNumber l C.2.2.2.2.2.2.2.2 hc16) (cwV 2 C.2.2.2.2.1 gX4_readLaw_X4_takeNumber rfl rfl rfl (by decide +kernel) ⟨Nat.le_of_ble_eq_true rfl, Nat.le_of_ble_eq_true rfl⟩) rfl rfl (Nat.le_of_ble_eq_true rfl) dX4_readLaw_16 ?_
    refine pw_putN (host := "PulpitRoads") (ty := .int) C iX2 tyX2 tyX2_ok nmX2 (pw_ltD ho1) (pw_shD ho1 _) rfl 1 (by decide) (pw_shD ho1 _) 4 rfl rfl (by decide +kernel) (fn_int _) (Nat.le_of_ble_eq_true rfl) dX4_readLaw_19 ?_
    refine pw_aload_n C dX4_readLaw_22 rfl 0 rfl ?_
    refine pw_get (v := .int ((pw_st m16 o1 1 r16) 2 3)) C iX4 (by decide) (pw_sh_2 _) rfl 3 (by decide) k1 rfl dX4_readLaw_23 ?_
    refine pw_if_ne (tgt := 38) C dX4_readLaw_26 (by decide) (fun c26 => ?_) (fun c26 => ?_)
    · have h := fn_pos c26 h
      refine pw_iconst (v := (0 : Int32)) C dX4_readLaw_38 (by decide) ?_
      obtain ⟨hz39, h⟩ := fn_bz_s h
      exact pw_zret C hz39 h dX4_readLaw_39
    · have h := fn_neg c26 h
      refine pw_aload_n C dX4_readLaw_29 rfl 0 rfl ?_
      refine pw_bipush (v := (44 : Int32)) C dX4_readLaw_30 (by decide) ?_
      obtain ⟨r32, m32, hc32, h⟩ := fn_bi_s h
      refine pw_callVi (rest := []) C (by decide) (pw_sh_2 _) rfl (ct_X4_takeSign l C.2.2.2.2.2.2.2.2 hc32) (cwV 1 C.2.2.2.2.1 gX4_readLaw_X4_takeSign rfl rfl rfl (by decide +kernel) ⟨Nat.le_of_ble_eq_true rfl, Nat.le_of_ble_eq_true rfl⟩) rfl rfl (Nat.le_of_ble_eq_true rfl) dX4_readLaw_32 ?_
      refine pw_if_ne (tgt := 40) C dX4_readLaw_35 (by decide) (fun c35 => ?_) (fun c35 => ?_)
      · have h := fn_pos c35 h
        refine pw_aload_n C dX4_readLaw_40 rfl 1 rfl ?_
        refine pw_aload_n C dX4_readLaw_41 rfl 0 rfl ?_
        refine pw_iconst (v := (0 : Int32)) C dX4_readLaw_42 (by decide) ?_
        refine pw_aload_n C dX4_readLaw_43 rfl 1 rfl ?_
        refine pw_getN (v := .int (m32 o1 1)) C iX2 (pw_ltD ho1) (pw_shD ho1 _) rfl 1 (by decide) 4 rfl rfl dX4_readLaw_44 ?_
        refine pw_iconst (v := (1 : Int32)) C dX4_readLaw_47 (by decide) ?_
        refine pw_isub C dX4_readLaw_48 ?_
        obtain ⟨r49, m49, hc49, h⟩ := fn_bi_s h
        refine pw_callVi (rest := [.ref (gad G o1)]) C (by decide) (pw_sh_2 _) rfl (ct_X4_takeNumber l C.2.2.2.2.2.2.2.2 hc49) (cwV 2 C.2.2.2.2.1 gX4_readLaw_X4_takeNumber rfl rfl rfl (by decide +kernel) ⟨Nat.le_of_ble_eq_true rfl, Nat.le_of_ble_eq_true rfl⟩) rfl rfl (Nat.le_of_ble_eq_true rfl) dX4_readLaw_49 ?_
        refine pw_putN (host := "PulpitRoads") (ty := .int) C iX2 tyX2 tyX2_ok nmX2 (pw_ltD ho1) (pw_shD ho1 _) rfl 2 (by decide) (pw_shD ho1 _) 6 rfl rfl (by decide +kernel) (fn_int _) (Nat.le_of_ble_eq_true rfl) dX4_readLaw_52 ?_
        refine pw_aload_n C dX4_readLaw_55 rfl 0 rfl ?_
        refine pw_get (v := .int ((pw_st m49 o1 2 r49) 2 3)) C iX4 (by decide) (pw_sh_2 _) rfl 3 (by decide) k1 rfl dX4_readLaw_56 ?_
        refine pw_if_ne (tgt := 75) C dX4_readLaw_59 (by decide) (fun c59 => ?_) (fun c59 => ?_)
        · have h := fn_pos c59 h
          refine pw_iconst (v := (0 : Int32)) C dX4_readLaw_75 (by decide) ?_
          obtain ⟨hz76, h⟩ := fn_bz_s h
          exact pw_zret C hz76 h dX4_readLaw_76
        · have h := fn_neg c59 h
          refine pw_aload_n C dX4_readLaw_62 rfl 0 rfl ?_
          refine pw_bipush (v := (59 : Int32)) C dX4_readLaw_63 (by decide) ?_
          obtain ⟨r65, m65, hc65, h⟩ := fn_bi_s h
          refine pw_callVi (rest := []) C (by decide) (pw_sh_2 _) rfl (ct_X4_takeSign l C.2.2.2.2.2.2.2.2 hc65) (cwV 1 C.2.2.2.2.1 gX4_readLaw_X4_takeSign rfl rfl rfl (by decide +kernel) ⟨Nat.le_of_ble_eq_true rfl, Nat.le_of_ble_eq_true rfl⟩) rfl rfl (Nat.le_of_ble_eq_true rfl) dX4_readLaw_65 ?_
          refine pw_if_eq (tgt := 75) C dX4_readLaw_68 (by decide) (fun c68 => ?_) (fun c68 => ?_)
          · have h := fn_pos c68 h
            refine pw_iconst (v := (0 : Int32)) C dX4_readLaw_75 (by decide) ?_
            obtain ⟨hz76, h⟩ := fn_bz_s h
            exact pw_zret C hz76 h dX4_readLaw_76
          · have h := fn_neg c68 h
            refine pw_iconst (v := (1 : Int32)) C dX4_readLaw_71 (by decide) ?_
            refine pw_goto (tgt := 76) C dX4_readLaw_72 (by decide) ?_
            obtain ⟨hz76, h⟩ := fn_bz_s h
            exact pw_zret C hz76 h dX4_readLaw_76
      · have h := fn_neg c35 h
        refine pw_iconst (v := (0 : Int32)) C dX4_readLaw_38 (by decide) ?_
        obtain ⟨hz39, h⟩ := fn_bz_s h
        exact pw_zret C hz39 h dX4_readLaw_39
  · have h := fn_neg c6 h
    refine pw_iconst (v := (0 : Int32)) C dX4_readLaw_9 (by decide) ?_
    obtain ⟨hz10, h⟩ := fn_bz_s h
    exact pw_zret C hz10 h dX4_readLaw_10
set_option maxHeartbeats 4000000 in
set_option maxRecDepth 100000 in
theorem ct_X4_kindHere (l : Launch) {G : pw_G} (hG : pw_Ok G)   {μ μ' : pw_Mem} {r : Int32} (h : fn_X4_kindHere μ = some (r, μ')) : Met l yX4_kindHere wsX4_kindHere ({ frames := 2, cells := 0, slots := 0, locals := 41 }) (va_Pc [.ref (gad G 2)] (pw_Pre G μ)) (va_Qi (fun (r1 : Int32) (u : pw_Mem) => r1 = r ∧ u = μ') (pw_B G) (gA G)) 0 0 (gA G) := by
  refine pw_met (lv := [(0, .ref (gad G 2))]) (own := RX4) (cc := cX4_kindHere) (maxL := 1) (ret := some .int) hG rfl (by decide) rfl rfl (Nat.le_of_ble_eq_true rfl) ?_
  intro p e s m below meth c C
  unfold fn_X4_kindHere at h
  refine pw_aload_n C dX4_kindHere_0 rfl 0 rfl ?_
  obtain ⟨r1, m1, hc1, h⟩ := fn_bi_s h
  refine pw_callVi (rest := []) C (by decide) (pw_sh_2 _) rfl (ct_X4_letterHere l C.2.2.2.2.2.2.2.2 hc1) (cwV 0 C.2.2.2.2.1 gX4_kindHere_X4_letterHere rfl rfl rfl (by decide +kernel) ⟨Nat.le_of_ble_eq_true rfl, Nat.le_of_ble_eq_true rfl⟩) rfl rfl (Nat.le_of_ble_eq_true rfl) dX4_kindHere_1 ?_
  by_cases c4_98 : r1 = 98
  · have h := fn_pos c4_98 h
    refine pw_look (tgt := 56) C dX4_kindHere_4 (by decide) (by rw [c4_98]; try decide) (by decide) ?_
    refine pw_iconst (v := (1 : Int32)) C dX4_kindHere_56 (by decide) ?_
    exact pw_iret C h dX4_kindHere_57
  · have h := fn_neg c4_98 h
    have n4_98 := pw_neI c4_98 (show (98 : Int32).toInt = 98 by decide)
    by_cases c4_100 : r1 = 100
    · have h := fn_pos c4_100 h
      refine pw_look (tgt := 62) C dX4_kindHere_4 (by decide) (by rw [c4_100]; try decide) (by decide) ?_
      refine pw_iconst (v := (4 : Int32)) C dX4_kindHere_62 (by decide) ?_
      exact pw_iret C h dX4_kindHere_63
    · have h := fn_neg c4_100 h
      have n4_100 := pw_neI c4_100 (show (100 : Int32).toInt = 100 by decide)
      by_cases c4_101 : r1 = 101
      · have h := fn_pos c4_101 h
        refine pw_look (tgt := 64) C dX4_kindHere_4 (by decide) (by rw [c4_101]; try decide) (by decide) ?_
        refine pw_iconst (v := (5 : Int32)) C dX4_kindHere_64 (by decide) ?_
        exact pw_iret C h dX4_kindHere_65
      · have h := fn_neg c4_101 h
        have n4_101 := pw_neI c4_101 (show (101 : Int32).toInt = 101 by decide)
        by_cases c4_107 : r1 = 107
        · have h := fn_pos c4_107 h
          refine pw_look (tgt := 58) C dX4_kindHere_4 (by decide) (by rw [c4_107]; try decide) (by decide) ?_
          refine pw_iconst (v := (2 : Int32)) C dX4_kindHere_58 (by decide) ?_
          exact pw_iret C h dX4_kindHere_59
        · have h := fn_neg c4_107 h
          have n4_107 := pw_neI c4_107 (show (107 : Int32).toInt = 107 by decide)
          by_cases c4_121 : r1 = 121
          · have h := fn_pos c4_121 h
            refine pw_look (tgt := 60) C dX4_kindHere_4 (by decide) (by rw [c4_121]; try decide) (by decide) ?_
            refine pw_iconst (v := (3 : Int32)) C dX4_kindHere_60 (by decide) ?_
            exact pw_iret C h dX4_kindHere_61
          · have h := fn_neg c4_121 h
            have n4_121 := pw_neI c4_121 (show (121 : Int32).toInt = 121 by decide)
            refine pw_look (tgt := 66) (off := 62) C dX4_kindHere_4 (by decide) (by simp only [Op.lookupswitch.offset, if_neg (Ne.symm n4_98), if_neg (Ne.symm n4_100), if_neg (Ne.symm n4_101), if_neg (Ne.symm n4_107), if_neg (Ne.symm n4_121)]) (by decide) ?_
            refine pw_iconst (v := (0 : Int32)) C dX4_kindHere_66 (by decide) ?_
            exact pw_iret C h dX4_kindHere_67
set_option maxHeartbeats 4000000 in
set_option maxRecDepth 100000 in
theorem ct_X4_readPulpit (l : Launch) {G : pw_G} (hG : pw_Ok G) {o1 : Nat} {a2 : Int32} (ho1 : pw_KD o1) {μ μ' : pw_Mem} {r : Int32} (h : fn_X4_readPulpit o1 a2 μ = some (r, μ')) : Met l yX4_readPulpit wsX4_readPulpit ({ frames := 3, cells := 0, slots := 0, locals := 67 }) (va_Pc [.ref (gad G 2), .ref (gad G o1), .int a2] (pw_Pre G μ)) (va_Qi (fun (r1 : Int32) (u : pw_Mem) => r1 = r ∧ u = μ') (pw_B G) (gA G)) 0 0 (gA G) := by
  refine pw_met (lv := [(0, .ref (gad G 2)), (1, .ref (gad G o1)), (2, .int a2)]) (own := RX4) (cc := cX4_readPulpit) (maxL := 3) (ret := some .boolean) hG rfl (by decide) rfl rfl (Nat.le_of_ble_eq_true rfl) ?_
  intro p e s m below meth c C
  have iX2 : ∀ w ∈ u_ws RX2 TX2 12, w ∈ wsX4_readPulpit := fun _ h => List.mem_cons_of_mem _ (List.mem_append_left _ (List.mem_append_right _ (h)))
  have iX4 : ∀ w ∈ u_ws RX4 TX4 4, w ∈ wsX4_readPulpit := fun _ h => List.mem_cons_of_mem _ (List.mem_append_right _ (h))
  have k1 := C.2.2.2.2.1 (.fieldLink RX4 27 "PulpitRoads$Tape" "faultNumber" "I") (List.mem_cons_of_mem _ (List.mem_append_left _ (List.mem_append_left _ (List.mem_append_left _ (List.mem_of_getElem? (i := 0) rfl)))))
  unfold fn_X4_readPulpit at h
  refine pw_aload_n C dX4_readPulpit_0 rfl 1 rfl ?_
  refine pw_getN (v := .ref (gad G (o1 + 4))) C iX2 (pw_ltD ho1) (pw_shD ho1 _) rfl 9 (by decide) 23 rfl rfl dX4_readPulpit_1 ?_
  refine pw_iload_n C dX4_readPulpit_4 rfl 2 rfl ?_
  refine pw_aload_n C dX4_readPulpit_5 rfl 0 rfl ?_
  refine pw_iconst (v := (0 : Int32)) C dX4_readPulpit_6 (by decide) ?_
  refine pw_aload_n C dX4_readPulpit_7 rfl 1 rfl ?_
  refine pw_getN (v := .int (μ o1 4)) C iX2 (pw_ltD ho1) (pw_shD ho1 _) rfl 4 (by decide) 10 rfl rfl dX4_readPulpit_8 ?_
  refine pw_iconst (v := (1 : Int32)) C dX4_readPulpit_11 (by decide) ?_
  refine pw_isub C dX4_readPulpit_12 ?_
  obtain ⟨r13, m13, hc13, h⟩ := fn_bi_s h
  refine pw_callVi (rest := [.int a2, .ref (gad G (o1 + 4))]) C (by decide) (pw_sh_2 _) rfl (ct_X4_takeNumber l C.2.2.2.2.2.2.2.2 hc13) (cwV 2 C.2.2.2.2.1 gX4_readPulpit_X4_takeNumber rfl rfl rfl (by decide +kernel) ⟨Nat.le_of_ble_eq_true rfl, Nat.le_of_ble_eq_true rfl⟩) rfl rfl (Nat.le_of_ble_eq_true rfl) dX4_readPulpit_13 ?_
  obtain ⟨hi16, h⟩ := fn_ix_s h
  refine pw_iast C (pw_ltD6 ho1 4 (by decide)) (pw_shD4 ho1) hi16 dX4_readPulpit_16 ?_
  refine pw_aload_n C dX4_readPulpit_17 rfl 0 rfl ?_
  refine pw_get (v := .int ((pw_st m13 (o1 + 4) (a2).toNatClampNeg r13) 2 3)) C iX4 (by decide) (pw_sh_2 _) rfl 3 (by decide) k1 rfl dX4_readPulpit_18 ?_
  refine pw_if_ne (tgt := 33) C dX4_readPulpit_21 (by decide) (fun c21 => ?_) (fun c21 => ?_)
  · have h := fn_pos c21 h
    refine pw_iconst (v := (0 : Int32)) C dX4_readPulpit_33 (by decide) ?_
    obtain ⟨hz34, h⟩ := fn_bz_s h
    exact pw_zret C hz34 h dX4_readPulpit_34
  · have h := fn_neg c21 h
    refine pw_aload_n C dX4_readPulpit_24 rfl 0 rfl ?_
    refine pw_bipush (v := (44 : Int32)) C dX4_readPulpit_25 (by decide) ?_
    obtain ⟨r27, m27, hc27, h⟩ := fn_bi_s h
    refine pw_callVi (rest := []) C (by decide) (pw_sh_2 _) rfl (ct_X4_takeSign l C.2.2.2.2.2.2.2.2 hc27) (cwV 1 C.2.2.2.2.1 gX4_readPulpit_X4_takeSign rfl rfl rfl (by decide +kernel) ⟨Nat.le_of_ble_eq_true rfl, Nat.le_of_ble_eq_true rfl⟩) rfl rfl (Nat.le_of_ble_eq_true rfl) dX4_readPulpit_27 ?_
    refine pw_if_ne (tgt := 35) C dX4_readPulpit_30 (by decide) (fun c30 => ?_) (fun c30 => ?_)
    · have h := fn_pos c30 h
      refine pw_aload_n C dX4_readPulpit_35 rfl 1 rfl ?_
      refine pw_getN (v := .ref (gad G (o1 + 5))) C iX2 (pw_ltD ho1) (pw_shD ho1 _) rfl 10 (by decide) 27 rfl rfl dX4_readPulpit_36 ?_
      refine pw_iload_n C dX4_readPulpit_39 rfl 2 rfl ?_
      refine pw_aload_n C dX4_readPulpit_40 rfl 0 rfl ?_
      refine pw_iconst (v := (0 : Int32)) C dX4_readPulpit_41 (by decide) ?_
      refine pw_aload_n C dX4_readPulpit_42 rfl 1 rfl ?_
      refine pw_getN (v := .int (m27 o1 1)) C iX2 (pw_ltD ho1) (pw_shD ho1 _) rfl 1 (by decide) 4 rfl rfl dX4_readPulpit_43 ?_
      refine pw_iconst (v := (1 : Int32)) C dX4_readPulpit_46 (by decide) ?_
      refine pw_isub C dX4_readPulpit_47 ?_
      obtain ⟨r48, m48, hc48, h⟩ := fn_bi_s h
      refine pw_callVi (rest := [.int a2, .ref (gad G (o1 + 5))]) C (by decide) (pw_sh_2 _) rfl (ct_X4_takeNumber l C.2.2.2.2.2.2.2.2 hc48) (cwV 2 C.2.2.2.2.1 gX4_readPulpit_X4_takeNumber rfl rfl rfl (by decide +kernel) ⟨Nat.le_of_ble_eq_true rfl, Nat.le_of_ble_eq_true rfl⟩) rfl rfl (Nat.le_of_ble_eq_true rfl) dX4_readPulpit_48 ?_
      obtain ⟨hi51, h⟩ := fn_ix_s h
      refine pw_iast C (pw_ltD6 ho1 5 (by decide)) (pw_shD5 ho1) hi51 dX4_readPulpit_51 ?_
      refine pw_aload_n C dX4_readPulpit_52 rfl 0 rfl ?_
      refine pw_get (v := .int ((pw_st m48 (o1 + 5) (a2).toNatClampNeg r48) 2 3)) C iX4 (by decide) (pw_sh_2 _) rfl 3 (by decide) k1 rfl dX4_readPulpit_53 ?_
      refine pw_if_ne (tgt := 72) C dX4_readPulpit_56 (by decide) (fun c56 => ?_) (fun c56 => ?_)
      · have h := fn_pos c56 h
        refine pw_iconst (v := (0 : Int32)) C dX4_readPulpit_72 (by decide) ?_
        obtain ⟨hz73, h⟩ := fn_bz_s h
        exact pw_zret C hz73 h dX4_readPulpit_73
      · have h := fn_neg c56 h
        refine pw_aload_n C dX4_readPulpit_59 rfl 0 rfl ?_
        refine pw_bipush (v := (59 : Int32)) C dX4_readPulpit_60 (by decide) ?_
        obtain ⟨r62, m62, hc62, h⟩ := fn_bi_s h
        refine pw_callVi (rest := []) C (by decide) (pw_sh_2 _) rfl (ct_X4_takeSign l C.2.2.2.2.2.2.2.2 hc62) (cwV 1 C.2.2.2.2.1 gX4_readPulpit_X4_takeSign rfl rfl rfl (by decide +kernel) ⟨Nat.le_of_ble_eq_true rfl, Nat.le_of_ble_eq_true rfl⟩) rfl rfl (Nat.le_of_ble_eq_true rfl) dX4_readPulpit_62 ?_
        refine pw_if_eq (tgt := 72) C dX4_readPulpit_65 (by decide) (fun c65 => ?_) (fun c65 => ?_)
        · have h := fn_pos c65 h
          refine pw_iconst (v := (0 : Int32)) C dX4_readPulpit_72 (by decide) ?_
          obtain ⟨hz73, h⟩ := fn_bz_s h
          exact pw_zret C hz73 h dX4_readPulpit_73
        · have h := fn_neg c65 h
          refine pw_iconst (v := (1 : Int32)) C dX4_readPulpit_68 (by decide) ?_
          refine pw_goto (tgt := 73) C dX4_readPulpit_69 (by decide) ?_
          obtain ⟨hz73, h⟩ := fn_bz_s h
          exact pw_zret C hz73 h dX4_readPulpit_73
    · have h := fn_neg c30 h
      refine pw_iconst (v := (0 : Int32)) C dX4_readPulpit_33 (by decide) ?_
      obtain ⟨hz34, h⟩ := fn_bz_s h
      exact pw_zret C hz34 h dX4_readPulpit_34
set_option maxHeartbeats 4000000 in
set_option maxRecDepth 100000 in
theorem ct_X4_readPulpits (l : Launch) {G : pw_G} (hG : pw_Ok G) {o1 : Nat} (ho1 : pw_KD o1) {μ μ' : pw_Mem} {r : Int32} (h : fn_X4_readPulpits o1 μ = some (r, μ')) : Met l yX4_readPulpits wsX4_readPulpits ({ frames := 4, cells := 0, slots := 0, locals := 89 }) (va_Pc [.ref (gad G 2), .ref (gad G o1)] (pw_Pre G μ)) (va_Qi (fun (r1 : Int32) (u : pw_Mem) => r1 = r ∧ u = μ') (pw_B G) (gA G)) 0 0 (gA G) := by
  refine pw_met (lv := [(0, .ref (gad G 2)), (1, .ref (gad G o1))]) (own := RX4) (cc := cX4_readPulpits) (maxL := 4) (ret := some .boolean) hG rfl (by decide) rfl rfl (Nat.le_of_ble_eq_true rfl) ?_
  intro p e s m below meth c C
  have iX2 : ∀ w ∈ u_ws RX2 TX2 12, w ∈ wsX4_readPulpits := fun _ h => List.mem_cons_of_mem _ (List.mem_append_right _ (h))
  have iX4 : ∀ w ∈ u_ws RX4 TX4 4, w ∈ wsX4_readPulpits := fun _ h => List.mem_cons_of_mem _ (List.mem_append_left _ (List.mem_append_right _ (h)))
  have k1 := C.2.2.2.2.1 (.fieldLink RX4 24 "PulpitRoads$Tape" "place" "I") (List.mem_cons_of_mem _ (List.mem_append_left _ (List.mem_append_left _ (List.mem_append_left _ (List.mem_of_getElem? (i := 0) rfl)))))
  have k2 := C.2.2.2.2.1 (.fieldLink RX4 15 "PulpitRoads$Tape" "length" "I") (List.mem_cons_of_mem _ (List.mem_append_left _ (List.mem_append_left _ (List.mem_append_left _ (List.mem_of_getElem? (i := 1) rfl)))))
  unfold fn_X4_readPulpits at h
  refine pw_iconst (v := (0 : Int32)) C dX4_readPulpits_0 (by decide) ?_
  refine pw_istore_n (lv' := [(2, .int (0 : Int32)), (0, .ref (gad G 2)), (1, .ref (gad G o1))]) C dX4_readPulpits_1 rfl (by decide) rfl ?_
  have L2 : ∀ (k : pw_Mem → Option (Int32 × pw_Mem)) (hk : ∀  (m1 : pw_Mem), k m1 = some (r, μ') → pw_Go p l e ({ frames := 4, cells := 0, slots := 0, locals := 89 }) s m (([.ref (gad G 2), .ref (gad G o1)] : List Value).toArray) below meth c (MQ below (va_Qi (fun (r1 : Int32) (u : pw_Mem) => r1 = r ∧ u = μ') (pw_B G) (gA G)) (([.ref (gad G 2), .ref (gad G o1)] : List Value).toArray) s 0 0 (gA G)) G 4 76 [(0, .ref (gad G 2))] [] m1) (n : Nat) (v2 : Int32) (m1 : pw_Mem), fl_X4_readPulpits_2 k o1 n v2 m1 = some (r, μ') → pw_Go p l e ({ frames := 4, cells := 0, slots := 0, locals := 89 }) s m (([.ref (gad G 2), .ref (gad G o1)] : List Value).toArray) below meth c (MQ below (va_Qi (fun (r1 : Int32) (u : pw_Mem) => r1 = r ∧ u = μ') (pw_B G) (gA G)) (([.ref (gad G 2), .ref (gad G o1)] : List Value).toArray) s 0 0 (gA G)) G 4 2 [(0, .ref (gad G 2)), (1, .ref (gad G o1)), (2, .int v2)] [] m1 := by
    intro k hk n
    induction n with
    | zero => intro v2 m1 h; exact nomatch (show (none : Option (Int32 × pw_Mem)) = some _ from h)
    | succ n ih =>
      intro v2 m1 h
      rw [fl_X4_readPulpits_2] at h
      refine pw_iload_n C dX4_readPulpits_2 rfl 2 rfl ?_
      refine pw_iconst (v := (5 : Int32)) C dX4_readPulpits_3 (by decide) ?_
      refine pw_icmp_ge (tgt := 76) C dX4_readPulpits_4 (by decide) (fun c4 => ?_) (fun c4 => ?_)
      · have h := fn_pos c4 h
        refine pw_sub [0] rfl ?_
        exact hk _ h
      · have h := fn_neg c4 h
        refine pw_aload_n C dX4_readPulpits_7 rfl 0 rfl ?_
        refine pw_get (v := .int (m1 2 2)) C iX4 (by decide) (pw_sh_2 _) rfl 2 (by decide) k1 rfl dX4_readPulpits_8 ?_
        refine pw_aload_n C dX4_readPulpits_11 rfl 0 rfl ?_
        refine pw_get (v := .int (m1 2 1)) C iX4 (by decide) (pw_sh_2 _) rfl 1 (by decide) k2 rfl dX4_readPulpits_12 ?_
        refine pw_icmp_ne (tgt := 20) C dX4_readPulpits_15 (by decide) (fun c15 => ?_) (fun c15 => ?_)
        · have h := fn_pos c15 h
          refine pw_aload_n C dX4_readPulpits_20 rfl 0 rfl ?_
          obtain ⟨r21, m21, hc21, h⟩ := fn_bi_s h
          refine pw_callVi (rest := []) C (by decide) (pw_sh_2 _) rfl (ct_X4_kindHere l C.2.2.2.2.2.2.2.2 hc21) (cwV 0 C.2.2.2.2.1 gX4_readPulpits_X4_kindHere rfl rfl rfl (by decide +kernel) ⟨Nat.le_of_ble_eq_true rfl, Nat.le_of_ble_eq_true rfl⟩) rfl rfl (Nat.le_of_ble_eq_true rfl) dX4_readPulpits_21 ?_
          refine pw_istore_n (lv' := [(3, .int r21), (0, .ref (gad G 2)), (1, .ref (gad G o1)), (2, .int v2)]) C dX4_readPulpits_24 rfl (by decide) rfl ?_
          refine pw_iload_n C dX4_readPulpits_25 rfl 0 rfl ?_
          refine pw_if_ne (tgt := 35) C dX4_readPulpits_26 (by decide) (fun c26 => ?_) (fun c26 => ?_)
          · have h := fn_pos c26 h
            refine pw_aload_n C dX4_readPulpits_35 rfl 1 rfl ?_
            refine pw_dup C dX4_readPulpits_36 rfl ?_
            refine pw_get (v := .int (m21 2 2)) C iX4 (by decide) (pw_sh_2 _) rfl 2 (by decide) k1 rfl dX4_readPulpits_37 ?_
            refine pw_iconst (v := (1 : Int32)) C dX4_readPulpits_40 (by decide) ?_
            refine pw_iadd C dX4_readPulpits_41 ?_
            refine pw_put (host := "PulpitRoads") (ty := .int) C iX4 tyX4 tyX4_ok nmX4 (by decide) (pw_sh_2 _) rfl 2 (by decide) (pw_sh_2 _) k1 rfl (by decide +kernel) (fn_int _) (Nat.le_of_ble_eq_true rfl) dX4_readPulpits_42 ?_
            refine pw_aload_n C dX4_readPulpits_45 rfl 1 rfl ?_
            refine pw_aload_n C dX4_readPulpits_46 rfl 2 rfl ?_
            refine pw_iload_n C dX4_readPulpits_47 rfl 3 rfl ?_
            obtain ⟨r48, m48, hc48, h⟩ := fn_bi_s h
            refine pw_callVi (rest := []) C (by decide) (pw_sh_2 _) rfl (ct_X4_readPulpit l C.2.2.2.2.2.2.2.2 ho1 hc48) (cwV 2 C.2.2.2.2.1 gX4_readPulpits_X4_readPulpit rfl rfl rfl (by decide +kernel) ⟨Nat.le_of_ble_eq_true rfl, Nat.le_of_ble_eq_true rfl⟩) rfl rfl (Nat.le_of_ble_eq_true rfl) dX4_readPulpits_48 ?_
            refine pw_if_ne (tgt := 56) C dX4_readPulpits_51 (by decide) (fun c51 => ?_) (fun c51 => ?_)
            · have h := fn_pos c51 h
              refine pw_aload_n C dX4_readPulpits_56 rfl 2 rfl ?_
              refine pw_getN (v := .ref (gad G (o1 + 3))) C iX2 (pw_ltD ho1) (pw_shD ho1 _) rfl 8 (by decide) 19 rfl rfl dX4_readPulpits_57 ?_
              refine pw_iload_n C dX4_readPulpits_60 rfl 3 rfl ?_
              refine pw_iload_n C dX4_readPulpits_61 rfl 0 rfl ?_
              obtain ⟨hi62, h⟩ := fn_ix_s h
              refine pw_iast C (pw_ltD6 ho1 3 (by decide)) (pw_shD3 ho1) hi62 dX4_readPulpits_62 ?_
              refine pw_aload_n C dX4_readPulpits_63 rfl 2 rfl ?_
              refine pw_iload_n C dX4_readPulpits_64 rfl 3 rfl ?_
              refine pw_iconst (v := (1 : Int32)) C dX4_readPulpits_65 (by decide) ?_
              refine pw_iadd C dX4_readPulpits_66 ?_
              refine pw_putN (host := "PulpitRoads") (ty := .int) C iX2 tyX2 tyX2_ok nmX2 (pw_ltD ho1) (pw_shD ho1 _) rfl 5 (by decide) (pw_shD ho1 _) 12 rfl rfl (by decide +kernel) (fn_int _) (Nat.le_of_ble_eq_true rfl) dX4_readPulpits_67 ?_
              refine pw_iinc (v := (v2 + 1)) (lv' := [(2, .int (v2 + 1)), (3, .int r21), (0, .ref (gad G 2)), (1, .ref (gad G o1))]) C dX4_readPulpits_70 (q := 3) rfl rfl (by decide) rfl ?_
              refine pw_goto (tgt := 2) C dX4_readPulpits_73 (by decide) ?_
              refine pw_sub [2, 3, 0] rfl ?_
              exact ih _ _ h
            · have h := fn_neg c51 h
              refine pw_iconst (v := (0 : Int32)) C dX4_readPulpits_54 (by decide) ?_
              obtain ⟨hz55, h⟩ := fn_bz_s h
              exact pw_zret C hz55 h dX4_readPulpits_55
          · have h := fn_neg c26 h
            refine pw_aload_n C dX4_readPulpits_29 rfl 1 rfl ?_
            refine pw_iconst (v := (1 : Int32)) C dX4_readPulpits_30 (by decide) ?_
            obtain ⟨r31, m31, hc31, h⟩ := fn_bi_s h
            refine pw_callVi (rest := []) C (by decide) (pw_sh_2 _) rfl (ct_X4_blame l C.2.2.2.2.2.2.2.2 hc31) (cwV 1 C.2.2.2.2.1 gX4_readPulpits_X4_blame rfl rfl rfl (by decide +kernel) ⟨Nat.le_of_ble_eq_true rfl, Nat.le_of_ble_eq_true rfl⟩) rfl rfl (Nat.le_of_ble_eq_true rfl) dX4_readPulpits_31 ?_
            obtain ⟨hz34, h⟩ := fn_bz_s h
            exact pw_zret C hz34 h dX4_readPulpits_34
        · have h := fn_neg c15 h
          refine pw_iconst (v := (1 : Int32)) C dX4_readPulpits_18 (by decide) ?_
          obtain ⟨hz19, h⟩ := fn_bz_s h
          exact pw_zret C hz19 h dX4_readPulpits_19
  refine pw_sub [1, 2, 0] rfl ?_
  refine L2 _ (fun m76 h => ?_) _ _ _ h
  refine pw_aload_n C dX4_readPulpits_76 rfl 0 rfl ?_
  refine pw_get (v := .int (m76 2 2)) C iX4 (by decide) (pw_sh_2 _) rfl 2 (by decide) k1 rfl dX4_readPulpits_77 ?_
  refine pw_aload_n C dX4_readPulpits_80 rfl 0 rfl ?_
  refine pw_get (v := .int (m76 2 1)) C iX4 (by decide) (pw_sh_2 _) rfl 1 (by decide) k2 rfl dX4_readPulpits_81 ?_
  refine fn_jn0_s (fun m106 => pw_Go p l e ({ frames := 4, cells := 0, slots := 0, locals := 89 }) s m (([.ref (gad G 2), .ref (gad G o1)] : List Value).toArray) below meth c (MQ below (va_Qi (fun (r1 : Int32) (u : pw_Mem) => r1 = r ∧ u = μ') (pw_B G) (gA G)) (([.ref (gad G 2), .ref (gad G o1)] : List Value).toArray) s 0 0 (gA G)) G 4 106 [] [] m106) h (fun m106 h => ?_) (fun k106 hk106 h => ?_)
  · refine pw_iconst (v := (1 : Int32)) C dX4_readPulpits_106 (by decide) ?_
    refine pw_goto (tgt := 111) C dX4_readPulpits_107 (by decide) ?_
    obtain ⟨hz111, h⟩ := fn_bz_s h
    exact pw_zret C hz111 h dX4_readPulpits_111
  · refine pw_icmp_eq (tgt := 106) C dX4_readPulpits_84 (by decide) (fun c84 => ?_) (fun c84 => ?_)
    · have h := fn_pos c84 h
      refine pw_sub [] rfl ?_
      exact hk106 _ h
    · have h := fn_neg c84 h
      refine pw_aload_n C dX4_readPulpits_87 rfl 0 rfl ?_
      refine pw_aload_n C dX4_readPulpits_88 rfl 0 rfl ?_
      obtain ⟨r89, m89, hc89, h⟩ := fn_bi_s h
      refine pw_callVi (rest := [.ref (gad G 2)]) C (by decide) (pw_sh_2 _) rfl (ct_X4_kindHere l C.2.2.2.2.2.2.2.2 hc89) (cwV 0 C.2.2.2.2.1 gX4_readPulpits_X4_kindHere rfl rfl rfl (by decide +kernel) ⟨Nat.le_of_ble_eq_true rfl, Nat.le_of_ble_eq_true rfl⟩) rfl rfl (Nat.le_of_ble_eq_true rfl) dX4_readPulpits_89 ?_
      refine fn_jn1_s (fun x100_0 m100 => pw_Go p l e ({ frames := 4, cells := 0, slots := 0, locals := 89 }) s m (([.ref (gad G 2), .ref (gad G o1)] : List Value).toArray) below meth c (MQ below (va_Qi (fun (r1 : Int32) (u : pw_Mem) => r1 = r ∧ u = μ') (pw_B G) (gA G)) (([.ref (gad G 2), .ref (gad G o1)] : List Value).toArray) s 0 0 (gA G)) G 4 100 [] [.int x100_0, .ref (gad G 2)] m100) h (fun x100_0 m100 h => ?_) (fun k100 hk100 h => ?_)
      · obtain ⟨r100, m100, hc100, h⟩ := fn_bi_s h
        refine pw_callVi (rest := []) C (by decide) (pw_sh_2 _) rfl (ct_X4_blame l C.2.2.2.2.2.2.2.2 hc100) (cwV 1 C.2.2.2.2.1 gX4_readPulpits_X4_blame rfl rfl rfl (by decide +kernel) ⟨Nat.le_of_ble_eq_true rfl, Nat.le_of_ble_eq_true rfl⟩) rfl rfl (Nat.le_of_ble_eq_true rfl) dX4_readPulpits_100 ?_
        refine pw_if_eq (tgt := 110) C dX4_readPulpits_103 (by decide) (fun c103 => ?_) (fun c103 => ?_)
        · have h := fn_pos c103 h
          refine pw_iconst (v := (0 : Int32)) C dX4_readPulpits_110 (by decide) ?_
          obtain ⟨hz111, h⟩ := fn_bz_s h
          exact pw_zret C hz111 h dX4_readPulpits_111
        · have h := fn_neg c103 h
          exact hk106 _ h
      · refine pw_if_ne (tgt := 99) C dX4_readPulpits_92 (by decide) (fun c92 => ?_) (fun c92 => ?_)
        · have h := fn_pos c92 h
          refine pw_iconst (v := (3 : Int32)) C dX4_readPulpits_99 (by decide) ?_
          refine pw_sub [] rfl ?_
          exact hk100 _ _ h
        · have h := fn_neg c92 h
          refine pw_iconst (v := (1 : Int32)) C dX4_readPulpits_95 (by decide) ?_
          refine pw_goto (tgt := 100) C dX4_readPulpits_96 (by decide) ?_
          refine pw_sub [] rfl ?_
          exact hk100 _ _ h
set_option maxHeartbeats 4000000 in
set_option maxRecDepth 100000 in
theorem ct_X4_readStretches (l : Launch) {G : pw_G} (hG : pw_Ok G) {o1 : Nat} (ho1 : pw_KD o1) {μ μ' : pw_Mem} {r : Int32} (h : fn_X4_readStretches o1 μ = some (r, μ')) : Met l yX4_readStretches wsX4_readStretches ({ frames := 3, cells := 0, slots := 0, locals := 67 }) (va_Pc [.ref (gad G 2), .ref (gad G o1)] (pw_Pre G μ)) (va_Qi (fun (r1 : Int32) (u : pw_Mem) => r1 = r ∧ u = μ') (pw_B G) (gA G)) 0 0 (gA G) := by
  refine pw_met (lv := [(0, .ref (gad G 2)), (1, .ref (gad G o1))]) (own := RX4) (cc := cX4_readStretches) (maxL := 3) (ret := some .boolean) hG rfl (by decide) rfl rfl (Nat.le_of_ble_eq_true rfl) ?_
  intro p e s m below meth c C
  have iX2 : ∀ w ∈ u_ws RX2 TX2 12, w ∈ wsX4_readStretches := fun _ h => List.mem_cons_of_mem _ (List.mem_append_left _ (List.mem_append_right _ (h)))
  have iX4 : ∀ w ∈ u_ws RX4 TX4 4, w ∈ wsX4_readStretches := fun _ h => List.mem_cons_of_mem _ (List.mem_append_right _ (h))
  have k1 := C.2.2.2.2.1 (.fieldLink RX4 27 "PulpitRoads$Tape" "faultNumber" "I") (List.mem_cons_of_mem _ (List.mem_append_left _ (List.mem_append_left _ (List.mem_append_left _ (List.mem_of_getElem? (i := 0) rfl)))))
  unfold fn_X4_readStretches at h
  refine pw_iconst (v := (0 : Int32)) C dX4_readStretches_0 (by decide) ?_
  refine pw_istore_n (lv' := [(2, .int (0 : Int32)), (0, .ref (gad G 2)), (1, .ref (gad G o1))]) C dX4_readStretches_1 rfl (by decide) rfl ?_
  have L2 : ∀ (k : pw_Mem → Option (Int32 × pw_Mem)) (hk : ∀  (m1 : pw_Mem), k m1 = some (r, μ') → pw_Go p l e ({ frames := 3, cells := 0, slots := 0, locals := 67 }) s m (([.ref (gad G 2), .ref (gad G o1)] : List Value).toArray) below meth c (MQ below (va_Qi (fun (r1 : Int32) (u : pw_Mem) => r1 = r ∧ u = μ') (pw_B G) (gA G)) (([.ref (gad G 2), .ref (gad G o1)] : List Value).toArray) s 0 0 (gA G)) G 3 78 [(0, .ref (gad G 2))] [] m1) (n : Nat) (v2 : Int32) (m1 : pw_Mem), fl_X4_readStretches_2 k o1 n v2 m1 = some (r, μ') → pw_Go p l e ({ frames := 3, cells := 0, slots := 0, locals := 67 }) s m (([.ref (gad G 2), .ref (gad G o1)] : List Value).toArray) below meth c (MQ below (va_Qi (fun (r1 : Int32) (u : pw_Mem) => r1 = r ∧ u = μ') (pw_B G) (gA G)) (([.ref (gad G 2), .ref (gad G o1)] : List Value).toArray) s 0 0 (gA G)) G 3 2 [(0, .ref (gad G 2)), (1, .ref (gad G o1)), (2, .int v2)] [] m1 := by
    intro k hk n
    induction n with
    | zero => intro v2 m1 h; exact nomatch (show (none : Option (Int32 × pw_Mem)) = some _ from h)
    | succ n ih =>
      intro v2 m1 h
      rw [fl_X4_readStretches_2] at h
      refine pw_iload_n C dX4_readStretches_2 rfl 2 rfl ?_
      refine pw_bipush (v := (9 : Int32)) C dX4_readStretches_3 (by decide) ?_
      refine pw_icmp_ge (tgt := 78) C dX4_readStretches_5 (by decide) (fun c5 => ?_) (fun c5 => ?_)
      · have h := fn_pos c5 h
        refine pw_sub [0] rfl ?_
        exact hk _ h
      · have h := fn_neg c5 h
        refine pw_iload_n C dX4_readStretches_8 rfl 2 rfl ?_
        refine pw_iconst (v := (3 : Int32)) C dX4_readStretches_9 (by decide) ?_
        refine fn_jn0_s (fun m24 => pw_Go p l e ({ frames := 3, cells := 0, slots := 0, locals := 67 }) s m (([.ref (gad G 2), .ref (gad G o1)] : List Value).toArray) below meth c (MQ below (va_Qi (fun (r1 : Int32) (u : pw_Mem) => r1 = r ∧ u = μ') (pw_B G) (gA G)) (([.ref (gad G 2), .ref (gad G o1)] : List Value).toArray) s 0 0 (gA G)) G 3 24 [(0, .ref (gad G 2)), (1, .ref (gad G o1)), (2, .int v2)] [] m24) h (fun m24 h => ?_) (fun k24 hk24 h => ?_)
        · refine pw_aload_n C dX4_readStretches_24 rfl 0 rfl ?_
          refine pw_bipush (v := (114 : Int32)) C dX4_readStretches_25 (by decide) ?_
          obtain ⟨r27, m27, hc27, h⟩ := fn_bi_s h
          refine pw_callVi (rest := []) C (by decide) (pw_sh_2 _) rfl (ct_X4_takeSign l C.2.2.2.2.2.2.2.2 hc27) (cwV 1 C.2.2.2.2.1 gX4_readStretches_X4_takeSign rfl rfl rfl (by decide +kernel) ⟨Nat.le_of_ble_eq_true rfl, Nat.le_of_ble_eq_true rfl⟩) rfl rfl (Nat.le_of_ble_eq_true rfl) dX4_readStretches_27 ?_
          refine pw_if_ne (tgt := 35) C dX4_readStretches_30 (by decide) (fun c30 => ?_) (fun c30 => ?_)
          · have h := fn_pos c30 h
            refine pw_aload_n C dX4_readStretches_35 rfl 1 rfl ?_
            refine pw_getN (v := .ref (gad G (o1 + 1))) C iX2 (pw_ltD ho1) (pw_shD ho1 _) rfl 6 (by decide) 14 rfl rfl dX4_readStretches_36 ?_
            refine pw_iload_n C dX4_readStretches_39 rfl 2 rfl ?_
            refine pw_aload_n C dX4_readStretches_40 rfl 0 rfl ?_
            refine pw_iconst (v := (0 : Int32)) C dX4_readStretches_41 (by decide) ?_
            refine pw_iconst (v := (2 : Int32)) C dX4_readStretches_42 (by decide) ?_
            obtain ⟨r43, m43, hc43, h⟩ := fn_bi_s h
            refine pw_callVi (rest := [.int v2, .ref (gad G (o1 + 1))]) C (by decide) (pw_sh_2 _) rfl (ct_X4_takeNumber l C.2.2.2.2.2.2.2.2 hc43) (cwV 2 C.2.2.2.2.1 gX4_readStretches_X4_takeNumber rfl rfl rfl (by decide +kernel) ⟨Nat.le_of_ble_eq_true rfl, Nat.le_of_ble_eq_true rfl⟩) rfl rfl (Nat.le_of_ble_eq_true rfl) dX4_readStretches_43 ?_
            obtain ⟨hi46, h⟩ := fn_ix_s h
            refine pw_iast C (pw_ltD6 ho1 1 (by decide)) (pw_shD1 ho1) hi46 dX4_readStretches_46 ?_
            refine pw_aload_n C dX4_readStretches_47 rfl 0 rfl ?_
            refine pw_get (v := .int ((pw_st m43 (o1 + 1) (v2).toNatClampNeg r43) 2 3)) C iX4 (by decide) (pw_sh_2 _) rfl 3 (by decide) k1 rfl dX4_readStretches_48 ?_
            refine pw_if_ne (tgt := 63) C dX4_readStretches_51 (by decide) (fun c51 => ?_) (fun c51 => ?_)
            · have h := fn_pos c51 h
              refine pw_iconst (v := (0 : Int32)) C dX4_readStretches_63 (by decide) ?_
              obtain ⟨hz64, h⟩ := fn_bz_s h
              exact pw_zret C hz64 h dX4_readStretches_64
            · have h := fn_neg c51 h
              refine pw_aload_n C dX4_readStretches_54 rfl 0 rfl ?_
              refine pw_bipush (v := (59 : Int32)) C dX4_readStretches_55 (by decide) ?_
              obtain ⟨r57, m57, hc57, h⟩ := fn_bi_s h
              refine pw_callVi (rest := []) C (by decide) (pw_sh_2 _) rfl (ct_X4_takeSign l C.2.2.2.2.2.2.2.2 hc57) (cwV 1 C.2.2.2.2.1 gX4_readStretches_X4_takeSign rfl rfl rfl (by decide +kernel) ⟨Nat.le_of_ble_eq_true rfl, Nat.le_of_ble_eq_true rfl⟩) rfl rfl (Nat.le_of_ble_eq_true rfl) dX4_readStretches_57 ?_
              refine pw_if_ne (tgt := 65) C dX4_readStretches_60 (by decide) (fun c60 => ?_) (fun c60 => ?_)
              · have h := fn_pos c60 h
                refine pw_aload_n C dX4_readStretches_65 rfl 1 rfl ?_
                refine pw_iload_n C dX4_readStretches_66 rfl 2 rfl ?_
                refine pw_iconst (v := (1 : Int32)) C dX4_readStretches_67 (by decide) ?_
                refine pw_iadd C dX4_readStretches_68 ?_
                refine pw_putN (host := "PulpitRoads") (ty := .int) C iX2 tyX2 tyX2_ok nmX2 (pw_ltD ho1) (pw_shD ho1 _) rfl 4 (by decide) (pw_shD ho1 _) 10 rfl rfl (by decide +kernel) (fn_int _) (Nat.le_of_ble_eq_true rfl) dX4_readStretches_69 ?_
                refine pw_iinc (v := (v2 + 1)) (lv' := [(2, .int (v2 + 1)), (0, .ref (gad G 2)), (1, .ref (gad G o1))]) C dX4_readStretches_72 (q := 2) rfl rfl (by decide) rfl ?_
                refine pw_goto (tgt := 2) C dX4_readStretches_75 (by decide) ?_
                refine pw_sub [1, 2, 0] rfl ?_
                exact ih _ _ h
              · have h := fn_neg c60 h
                refine pw_iconst (v := (0 : Int32)) C dX4_readStretches_63 (by decide) ?_
                obtain ⟨hz64, h⟩ := fn_bz_s h
                exact pw_zret C hz64 h dX4_readStretches_64
          · have h := fn_neg c30 h
            refine pw_iconst (v := (0 : Int32)) C dX4_readStretches_33 (by decide) ?_
            obtain ⟨hz34, h⟩ := fn_bz_s h
            exact pw_zret C hz34 h dX4_readStretches_34
        · refine pw_icmp_lt (tgt := 24) C dX4_readStretches_10 (by decide) (fun c10 => ?_) (fun c10 => ?_)
          · have h := fn_pos c10 h
            exact hk24 _ h
          · have h := fn_neg c10 h
            refine pw_aload_n C dX4_readStretches_13 rfl 0 rfl ?_
            obtain ⟨r14, m14, hc14, h⟩ := fn_bi_s h
            refine pw_callVi (rest := []) C (by decide) (pw_sh_2 _) rfl (ct_X4_letterHere l C.2.2.2.2.2.2.2.2 hc14) (cwV 0 C.2.2.2.2.1 gX4_readStretches_X4_letterHere rfl rfl rfl (by decide +kernel) ⟨Nat.le_of_ble_eq_true rfl, Nat.le_of_ble_eq_true rfl⟩) rfl rfl (Nat.le_of_ble_eq_true rfl) dX4_readStretches_14 ?_
            refine pw_bipush (v := (114 : Int32)) C dX4_readStretches_17 (by decide) ?_
            refine pw_icmp_eq (tgt := 24) C dX4_readStretches_19 (by decide) (fun c19 => ?_) (fun c19 => ?_)
            · have h := fn_pos c19 h
              exact hk24 _ h
            · have h := fn_neg c19 h
              refine pw_iconst (v := (1 : Int32)) C dX4_readStretches_22 (by decide) ?_
              obtain ⟨hz23, h⟩ := fn_bz_s h
              exact pw_zret C hz23 h dX4_readStretches_23
  refine pw_sub [1, 2, 0] rfl ?_
  refine L2 _ (fun m78 h => ?_) _ _ _ h
  refine pw_aload_n C dX4_readStretches_78 rfl 0 rfl ?_
  obtain ⟨r79, m79, hc79, h⟩ := fn_bi_s h
  refine pw_callVi (rest := []) C (by decide) (pw_sh_2 _) rfl (ct_X4_letterHere l C.2.2.2.2.2.2.2.2 hc79) (cwV 0 C.2.2.2.2.1 gX4_readStretches_X4_letterHere rfl rfl rfl (by decide +kernel) ⟨Nat.le_of_ble_eq_true rfl, Nat.le_of_ble_eq_true rfl⟩) rfl rfl (Nat.le_of_ble_eq_true rfl) dX4_readStretches_79 ?_
  refine pw_bipush (v := (114 : Int32)) C dX4_readStretches_82 (by decide) ?_
  refine fn_jn0_s (fun m95 => pw_Go p l e ({ frames := 3, cells := 0, slots := 0, locals := 67 }) s m (([.ref (gad G 2), .ref (gad G o1)] : List Value).toArray) below meth c (MQ below (va_Qi (fun (r1 : Int32) (u : pw_Mem) => r1 = r ∧ u = μ') (pw_B G) (gA G)) (([.ref (gad G 2), .ref (gad G o1)] : List Value).toArray) s 0 0 (gA G)) G 3 95 [] [] m95) h (fun m95 h => ?_) (fun k95 hk95 h => ?_)
  · refine pw_iconst (v := (1 : Int32)) C dX4_readStretches_95 (by decide) ?_
    refine pw_goto (tgt := 100) C dX4_readStretches_96 (by decide) ?_
    obtain ⟨hz100, h⟩ := fn_bz_s h
    exact pw_zret C hz100 h dX4_readStretches_100
  · refine pw_icmp_ne (tgt := 95) C dX4_readStretches_84 (by decide) (fun c84 => ?_) (fun c84 => ?_)
    · have h := fn_pos c84 h
      refine pw_sub [] rfl ?_
      exact hk95 _ h
    · have h := fn_neg c84 h
      refine pw_aload_n C dX4_readStretches_87 rfl 0 rfl ?_
      refine pw_iconst (v := (3 : Int32)) C dX4_readStretches_88 (by decide) ?_
      obtain ⟨r89, m89, hc89, h⟩ := fn_bi_s h
      refine pw_callVi (rest := []) C (by decide) (pw_sh_2 _) rfl (ct_X4_blame l C.2.2.2.2.2.2.2.2 hc89) (cwV 1 C.2.2.2.2.1 gX4_readStretches_X4_blame rfl rfl rfl (by decide +kernel) ⟨Nat.le_of_ble_eq_true rfl, Nat.le_of_ble_eq_true rfl⟩) rfl rfl (Nat.le_of_ble_eq_true rfl) dX4_readStretches_89 ?_
      refine pw_if_eq (tgt := 99) C dX4_readStretches_92 (by decide) (fun c92 => ?_) (fun c92 => ?_)
      · have h := fn_pos c92 h
        refine pw_iconst (v := (0 : Int32)) C dX4_readStretches_99 (by decide) ?_
        obtain ⟨hz100, h⟩ := fn_bz_s h
        exact pw_zret C hz100 h dX4_readStretches_100
      · have h := fn_neg c92 h
        refine pw_sub [] rfl ?_
        exact hk95 _ h
set_option maxHeartbeats 4000000 in
set_option maxRecDepth 100000 in
theorem ct_X4_readInto (l : Launch) {G : pw_G} (hG : pw_Ok G) {o1 : Nat} (ho1 : pw_KD o1) {μ μ' : pw_Mem} {r : Int32} (h : fn_X4_readInto o1 μ = some (r, μ')) : Met l yX4_readInto wsX4_readInto ({ frames := 5, cells := 0, slots := 0, locals := 112 }) (va_Pc [.ref (gad G 2), .ref (gad G o1)] (pw_Pre G μ)) (va_Qi (fun (r1 : Int32) (u : pw_Mem) => r1 = r ∧ u = μ') (pw_B G) (gA G)) 0 0 (gA G) := by
  refine pw_met (lv := [(0, .ref (gad G 2)), (1, .ref (gad G o1))]) (own := RX4) (cc := cX4_readInto) (maxL := 2) (ret := some .boolean) hG rfl (by decide) rfl rfl (Nat.le_of_ble_eq_true rfl) ?_
  intro p e s m below meth c C
  have iX4 : ∀ w ∈ u_ws RX4 TX4 4, w ∈ wsX4_readInto := fun _ h => List.mem_cons_of_mem _ (List.mem_append_left _ (List.mem_append_right _ (h)))
  have k1 := C.2.2.2.2.1 (.fieldLink RX4 24 "PulpitRoads$Tape" "place" "I") (List.mem_cons_of_mem _ (List.mem_append_left _ (List.mem_append_left _ (List.mem_append_left _ (List.mem_of_getElem? (i := 0) rfl)))))
  have k2 := C.2.2.2.2.1 (.fieldLink RX4 27 "PulpitRoads$Tape" "faultNumber" "I") (List.mem_cons_of_mem _ (List.mem_append_left _ (List.mem_append_left _ (List.mem_append_left _ (List.mem_of_getElem? (i := 1) rfl)))))
  have k3 := C.2.2.2.2.1 (.instanceMethod yX2_begin) (List.mem_cons_of_mem _ (List.mem_append_left _ (List.mem_append_left _ (List.mem_append_left _ (List.mem_of_getElem? (i := 2) rfl)))))
  have k4 := C.2.2.2.2.1 (.initialized RX2) (List.mem_cons_of_mem _ (List.mem_append_left _ (List.mem_append_left _ (List.mem_append_left _ (List.mem_of_getElem? (i := 3) rfl)))))
  have k5 := C.2.2.2.2.1 (.selects RX2 yX2_begin yX2_begin) (List.mem_cons_of_mem _ (List.mem_append_left _ (List.mem_append_left _ (List.mem_append_left _ (List.mem_of_getElem? (i := 4) rfl)))))
  have nm10 : va_Nw (.methodLinkNest RX4 19 yX2_begin "PulpitRoads") s := C.2.2.2.2.2.2.2.1.2.1.2 ("PulpitRoads$Tape", 19, ⟨"PulpitRoads$Road", "begin", "()V"⟩, "PulpitRoads") (List.mem_of_getElem? (i := 10) rfl)
  unfold fn_X4_readInto at h
  refine pw_aload_n C dX4_readInto_0 rfl 1 rfl ?_
  obtain ⟨m1, hc1, h⟩ := fn_bv_s h
  refine pw_callVNv (rest := []) C (pw_ltD ho1) (pw_shD ho1 _) rfl (ct_X2_begin l C.2.2.2.2.2.2.2.2 ho1 hc1) ⟨va_cnB 0 C.2.2.2.2.1 gX4_readInto_X2_begin_n19 rfl rfl rfl nm10 k4 (by decide +kernel) ⟨Nat.le_of_ble_eq_true rfl, Nat.le_of_ble_eq_true rfl⟩, k3, k5⟩ rfl rfl (Nat.le_of_ble_eq_true rfl) dX4_readInto_1 ?_
  refine pw_aload_n C dX4_readInto_4 rfl 0 rfl ?_
  refine pw_iconst (v := (0 : Int32)) C dX4_readInto_5 (by decide) ?_
  refine pw_put (host := "PulpitRoads") (ty := .int) C iX4 tyX4 tyX4_ok nmX4 (by decide) (pw_sh_2 _) rfl 2 (by decide) (pw_sh_2 _) k1 rfl (by decide +kernel) (fn_int _) (Nat.le_of_ble_eq_true rfl) dX4_readInto_6 ?_
  refine pw_aload_n C dX4_readInto_9 rfl 0 rfl ?_
  refine pw_iconst (v := (0 : Int32)) C dX4_readInto_10 (by decide) ?_
  refine pw_put (host := "PulpitRoads") (ty := .int) C iX4 tyX4 tyX4_ok nmX4 (by decide) (pw_sh_2 _) rfl 3 (by decide) (pw_sh_2 _) k2 rfl (by decide +kernel) (fn_int _) (Nat.le_of_ble_eq_true rfl) dX4_readInto_11 ?_
  refine pw_aload_n C dX4_readInto_14 rfl 0 rfl ?_
  refine pw_aload_n C dX4_readInto_15 rfl 1 rfl ?_
  obtain ⟨r16, m16, hc16, h⟩ := fn_bi_s h
  refine pw_callVi (rest := []) C (by decide) (pw_sh_2 _) rfl (ct_X4_readLaw l C.2.2.2.2.2.2.2.2 ho1 hc16) (cwV 1 C.2.2.2.2.1 gX4_readInto_X4_readLaw rfl rfl rfl (by decide +kernel) ⟨Nat.le_of_ble_eq_true rfl, Nat.le_of_ble_eq_true rfl⟩) rfl rfl (Nat.le_of_ble_eq_true rfl) dX4_readInto_16 ?_
  refine pw_if_eq (tgt := 42) C dX4_readInto_19 (by decide) (fun c19 => ?_) (fun c19 => ?_)
  · have h := fn_pos c19 h
    refine pw_iconst (v := (0 : Int32)) C dX4_readInto_42 (by decide) ?_
    obtain ⟨hz43, h⟩ := fn_bz_s h
    exact pw_zret C hz43 h dX4_readInto_43
  · have h := fn_neg c19 h
    refine pw_aload_n C dX4_readInto_22 rfl 0 rfl ?_
    refine pw_aload_n C dX4_readInto_23 rfl 1 rfl ?_
    obtain ⟨r24, m24, hc24, h⟩ := fn_bi_s h
    refine pw_callVi (rest := []) C (by decide) (pw_sh_2 _) rfl (ct_X4_readStretches l C.2.2.2.2.2.2.2.2 ho1 hc24) (cwV 1 C.2.2.2.2.1 gX4_readInto_X4_readStretches rfl rfl rfl (by decide +kernel) ⟨Nat.le_of_ble_eq_true rfl, Nat.le_of_ble_eq_true rfl⟩) rfl rfl (Nat.le_of_ble_eq_true rfl) dX4_readInto_24 ?_
    refine pw_if_eq (tgt := 42) C dX4_readInto_27 (by decide) (fun c27 => ?_) (fun c27 => ?_)
    · have h := fn_pos c27 h
      refine pw_iconst (v := (0 : Int32)) C dX4_readInto_42 (by decide) ?_
      obtain ⟨hz43, h⟩ := fn_bz_s h
      exact pw_zret C hz43 h dX4_readInto_43
    · have h := fn_neg c27 h
      refine pw_aload_n C dX4_readInto_30 rfl 0 rfl ?_
      refine pw_aload_n C dX4_readInto_31 rfl 1 rfl ?_
      obtain ⟨r32, m32, hc32, h⟩ := fn_bi_s h
      refine pw_callVi (rest := []) C (by decide) (pw_sh_2 _) rfl (ct_X4_readPulpits l C.2.2.2.2.2.2.2.2 ho1 hc32) (cwV 1 C.2.2.2.2.1 gX4_readInto_X4_readPulpits rfl rfl rfl (by decide +kernel) ⟨Nat.le_of_ble_eq_true rfl, Nat.le_of_ble_eq_true rfl⟩) rfl rfl (Nat.le_of_ble_eq_true rfl) dX4_readInto_32 ?_
      refine pw_if_eq (tgt := 42) C dX4_readInto_35 (by decide) (fun c35 => ?_) (fun c35 => ?_)
      · have h := fn_pos c35 h
        refine pw_iconst (v := (0 : Int32)) C dX4_readInto_42 (by decide) ?_
        obtain ⟨hz43, h⟩ := fn_bz_s h
        exact pw_zret C hz43 h dX4_readInto_43
      · have h := fn_neg c35 h
        refine pw_iconst (v := (1 : Int32)) C dX4_readInto_38 (by decide) ?_
        refine pw_goto (tgt := 43) C dX4_readInto_39 (by decide) ?_
        obtain ⟨hz43, h⟩ := fn_bz_s h
        exact pw_zret C hz43 h dX4_readInto_43
set_option maxHeartbeats 4000000 in
set_option maxRecDepth 100000 in
theorem ct_X5_found (l : Launch) {G : pw_G} (hG : pw_Ok G) {a1 : Int32}  {μ μ' : pw_Mem} {r : Int32} (h : fn_X5_found a1 μ = some (r, μ')) : Met l yX5_found wsX5_found ({ frames := 0, cells := 0, slots := 0, locals := 0 }) (va_Pc [.ref (gad G 0), .int a1] (pw_Pre G μ)) (va_Qi (fun (r1 : Int32) (u : pw_Mem) => r1 = r ∧ u = μ') (pw_B G) (gA G)) 0 0 (gA G) := by
  refine pw_met (lv := [(0, .ref (gad G 0)), (1, .int a1)]) (own := RX5) (cc := cX5_found) (maxL := 2) (ret := some .int) hG rfl (by decide) rfl rfl (Nat.le_of_ble_eq_true rfl) ?_
  intro p e s m below meth c C
  have iX5 : ∀ w ∈ u_ws RX5 TX5 10, w ∈ wsX5_found := fun _ h => List.mem_cons_of_mem _ (List.mem_append_right _ (h))
  have k1 := C.2.2.2.2.1 (.fieldLink RX5 273 "PulpitRoads" "latestFinding" "I") (List.mem_cons_of_mem _ (List.mem_append_left _ (List.mem_of_getElem? (i := 0) rfl)))
  have k2 := C.2.2.2.2.1 (.constant RX5 276 (-1000010)) (List.mem_cons_of_mem _ (List.mem_append_left _ (List.mem_of_getElem? (i := 1) rfl)))
  unfold fn_X5_found at h
  refine pw_aload_n C dX5_found_0 rfl 0 rfl ?_
  refine pw_iload_n C dX5_found_1 rfl 1 rfl ?_
  refine pw_put (host := "PulpitRoads") (ty := .int) C iX5 tyX5 tyX5_ok nmX5 (by decide) (pw_sh_0 _) rfl 9 (by decide) (pw_sh_0 _) k1 rfl (by decide +kernel) (fn_int _) (Nat.le_of_ble_eq_true rfl) dX5_found_2 ?_
  refine pw_ldcw C k2 dX5_found_5 ?_
  refine pw_iload_n C dX5_found_8 rfl 1 rfl ?_
  refine pw_isub C dX5_found_9 ?_
  exact pw_iret C h dX5_found_10
set_option maxHeartbeats 4000000 in
set_option maxRecDepth 100000 in
theorem ct_X5_foundNothing (l : Launch) {G : pw_G} (hG : pw_Ok G) {a1 : Int32}  {μ μ' : pw_Mem} {r : Int32} (h : fn_X5_foundNothing a1 μ = some (r, μ')) : Met l yX5_foundNothing wsX5_foundNothing ({ frames := 0, cells := 0, slots := 0, locals := 0 }) (va_Pc [.ref (gad G 0), .int a1] (pw_Pre G μ)) (va_Qi (fun (r1 : Int32) (u : pw_Mem) => r1 = r ∧ u = μ') (pw_B G) (gA G)) 0 0 (gA G) := by
  refine pw_met (lv := [(0, .ref (gad G 0)), (1, .int a1)]) (own := RX5) (cc := cX5_foundNothing) (maxL := 2) (ret := some .int) hG rfl (by decide) rfl rfl (Nat.le_of_ble_eq_true rfl) ?_
  intro p e s m below meth c C
  have iX5 : ∀ w ∈ u_ws RX5 TX5 10, w ∈ wsX5_foundNothing := fun _ h => List.mem_cons_of_mem _ (List.mem_append_right _ (h))
  have k1 := C.2.2.2.2.1 (.fieldLink RX5 273 "PulpitRoads" "latestFinding" "I") (List.mem_cons_of_mem _ (List.mem_append_left _ (List.mem_of_getElem? (i := 0) rfl)))
  unfold fn_X5_foundNothing at h
  refine pw_aload_n C dX5_foundNothing_0 rfl 0 rfl ?_
  refine pw_iconst (v := (0 : Int32)) C dX5_foundNothing_1 (by decide) ?_
  refine pw_put (host := "PulpitRoads") (ty := .int) C iX5 tyX5 tyX5_ok nmX5 (by decide) (pw_sh_0 _) rfl 9 (by decide) (pw_sh_0 _) k1 rfl (by decide +kernel) (fn_int _) (Nat.le_of_ble_eq_true rfl) dX5_foundNothing_2 ?_
  refine pw_iload_n C dX5_foundNothing_5 rfl 1 rfl ?_
  exact pw_iret C h dX5_foundNothing_6
set_option maxHeartbeats 4000000 in
set_option maxRecDepth 100000 in
theorem ct_X5_isRow (l : Launch) {G : pw_G} (hG : pw_Ok G) {a0 : Int32}  {μ μ' : pw_Mem} {r : Int32} (h : fn_X5_isRow a0 μ = some (r, μ')) : Met l yX5_isRow wsX5_isRow ({ frames := 0, cells := 0, slots := 0, locals := 0 }) (va_Pc [.int a0] (pw_Pre G μ)) (va_Qi (fun (r1 : Int32) (u : pw_Mem) => r1 = r ∧ u = μ') (pw_B G) (gA G)) 0 0 (gA G) := by
  refine pw_met (lv := [(0, .int a0)]) (own := RX5) (cc := cX5_isRow) (maxL := 1) (ret := some .boolean) hG rfl (by decide) rfl rfl (Nat.le_of_ble_eq_true rfl) ?_
  intro p e s m below meth c C
  unfold fn_X5_isRow at h
  refine pw_iload_n C dX5_isRow_0 rfl 0 rfl ?_
  refine pw_if_lt (tgt := 14) C dX5_isRow_1 (by decide) (fun c1 => ?_) (fun c1 => ?_)
  · have h := fn_pos c1 h
    refine pw_iconst (v := (0 : Int32)) C dX5_isRow_14 (by decide) ?_
    obtain ⟨hz15, h⟩ := fn_bz_s h
    exact pw_zret C hz15 h dX5_isRow_15
  · have h := fn_neg c1 h
    refine pw_iload_n C dX5_isRow_4 rfl 0 rfl ?_
    refine pw_bipush (v := (8 : Int32)) C dX5_isRow_5 (by decide) ?_
    refine pw_icmp_ge (tgt := 14) C dX5_isRow_7 (by decide) (fun c7 => ?_) (fun c7 => ?_)
    · have h := fn_pos c7 h
      refine pw_iconst (v := (0 : Int32)) C dX5_isRow_14 (by decide) ?_
      obtain ⟨hz15, h⟩ := fn_bz_s h
      exact pw_zret C hz15 h dX5_isRow_15
    · have h := fn_neg c7 h
      refine pw_iconst (v := (1 : Int32)) C dX5_isRow_10 (by decide) ?_
      refine pw_goto (tgt := 15) C dX5_isRow_11 (by decide) ?_
      obtain ⟨hz15, h⟩ := fn_bz_s h
      exact pw_zret C hz15 h dX5_isRow_15
set_option maxHeartbeats 4000000 in
set_option maxRecDepth 100000 in
theorem ct_X5_row (l : Launch) {G : pw_G} (hG : pw_Ok G) {a1 : Int32} {a2 : Int32} {a3 : Int32}  {μ μ' : pw_Mem} {r : Int32} (h : fn_X5_row a1 a2 a3 μ = some (r, μ')) : Met l yX5_row wsX5_row ({ frames := 1, cells := 0, slots := 0, locals := 23 }) (va_Pc [.ref (gad G 0), .int a1, .int a2, .int a3] (pw_Pre G μ)) (va_Qi (fun (r1 : Int32) (u : pw_Mem) => r1 = r ∧ u = μ') (pw_B G) (gA G)) 0 0 (gA G) := by
  refine pw_met (lv := [(0, .ref (gad G 0)), (1, .int a1), (2, .int a2), (3, .int a3)]) (own := RX5) (cc := cX5_row) (maxL := 4) (ret := some .int) hG rfl (by decide) rfl rfl (Nat.le_of_ble_eq_true rfl) ?_
  intro p e s m below meth c C
  have iX5 : ∀ w ∈ u_ws RX5 TX5 10, w ∈ wsX5_row := fun _ h => List.mem_cons_of_mem _ (List.mem_append_left _ (List.mem_append_right _ (h)))
  have k1 := C.2.2.2.2.1 (.constant RX5 59 (-1000001)) (List.mem_cons_of_mem _ (List.mem_append_left _ (List.mem_append_left _ (List.mem_of_getElem? (i := 0) rfl))))
  have k13 := C.2.2.2.2.1 (.instanceMethod yX3_begin) (List.mem_cons_of_mem _ (List.mem_append_left _ (List.mem_append_left _ (List.mem_of_getElem? (i := 12) rfl))))
  have k14 := C.2.2.2.2.1 (.initialized RX3) (List.mem_cons_of_mem _ (List.mem_append_left _ (List.mem_append_left _ (List.mem_of_getElem? (i := 13) rfl))))
  have k15 := C.2.2.2.2.1 (.selects RX3 yX3_begin yX3_begin) (List.mem_cons_of_mem _ (List.mem_append_left _ (List.mem_append_left _ (List.mem_of_getElem? (i := 14) rfl))))
  have k2 := C.2.2.2.2.1 (.fieldLink RX5 11 "PulpitRoads" "rows" "[LPulpitRoads$Row;") (List.mem_cons_of_mem _ (List.mem_append_left _ (List.mem_append_left _ (List.mem_of_getElem? (i := 1) rfl))))
  have nm5 : va_Nw (.methodLinkNest RX5 64 yX3_begin "PulpitRoads") s := C.2.2.2.2.2.2.2.1.2.1.2 ("PulpitRoads", 64, ⟨"PulpitRoads$Row", "begin", "(II)V"⟩, "PulpitRoads") (List.mem_of_getElem? (i := 5) rfl)
  unfold fn_X5_row at h
  refine pw_iload_n C dX5_row_0 rfl 1 rfl ?_
  obtain ⟨r1, m1, hc1, h⟩ := fn_bi_s h
  refine pw_callSi (rest := []) C (ct_X5_isRow l C.2.2.2.2.2.2.2.2 hc1) (va_cwS 1 C.2.2.2.2.1 gX5_row_X5_isRow rfl rfl rfl (by decide +kernel) ⟨Nat.le_of_ble_eq_true rfl, Nat.le_of_ble_eq_true rfl⟩) rfl rfl (Nat.le_of_ble_eq_true rfl) dX5_row_1 ?_
  refine pw_if_eq (tgt := 22) C dX5_row_4 (by decide) (fun c4 => ?_) (fun c4 => ?_)
  · have h := fn_pos c4 h
    refine pw_ldc C k1 dX5_row_22 ?_
    exact pw_iret C h dX5_row_24
  · have h := fn_neg c4 h
    refine pw_iload_n C dX5_row_7 rfl 2 rfl ?_
    refine pw_if_lt (tgt := 22) C dX5_row_8 (by decide) (fun c8 => ?_) (fun c8 => ?_)
    · have h := fn_pos c8 h
      refine pw_ldc C k1 dX5_row_22 ?_
      exact pw_iret C h dX5_row_24
    · have h := fn_neg c8 h
      refine pw_iload_n C dX5_row_11 rfl 2 rfl ?_
      refine pw_iconst (v := (3 : Int32)) C dX5_row_12 (by decide) ?_
      refine pw_icmp_ge (tgt := 22) C dX5_row_13 (by decide) (fun c13 => ?_) (fun c13 => ?_)
      · have h := fn_pos c13 h
        refine pw_ldc C k1 dX5_row_22 ?_
        exact pw_iret C h dX5_row_24
      · have h := fn_neg c13 h
        refine pw_iload_n C dX5_row_16 rfl 3 rfl ?_
        refine pw_bipush (v := (40 : Int32)) C dX5_row_17 (by decide) ?_
        refine pw_icmp_le (tgt := 25) C dX5_row_19 (by decide) (fun c19 => ?_) (fun c19 => ?_)
        · have h := fn_pos c19 h
          refine pw_iload_n C dX5_row_25 rfl 3 rfl ?_
          refine pw_if_ge (tgt := 35) C dX5_row_26 (by decide) (fun c26 => ?_) (fun c26 => ?_)
          · have h := fn_pos c26 h
            refine pw_aload_n C dX5_row_35 rfl 0 rfl ?_
            refine pw_get (v := .ref (gad G 1)) C iX5 (by decide) (pw_sh_0 _) rfl 0 (by decide) k2 rfl dX5_row_36 ?_
            refine pw_iload_n C dX5_row_39 rfl 1 rfl ?_
            obtain ⟨hi40, h⟩ := fn_ix_s h
            refine pw_aldR C hi40 dX5_row_40 ?_
            refine pw_iload_n C dX5_row_41 rfl 2 rfl ?_
            refine pw_iload_n C dX5_row_42 rfl 3 rfl ?_
            obtain ⟨m43, hc43, h⟩ := fn_bv_s h
            refine pw_callVNv (rest := []) C (pw_ltR (pw_KR_of hi40)) (pw_shR (pw_KR_of hi40) _) rfl (ct_X3_begin l C.2.2.2.2.2.2.2.2 (pw_KR_of hi40) hc43) ⟨va_cnB 2 C.2.2.2.2.1 gX5_row_X3_begin_n64 rfl rfl rfl nm5 k14 (by decide +kernel) ⟨Nat.le_of_ble_eq_true rfl, Nat.le_of_ble_eq_true rfl⟩, k13, k15⟩ rfl rfl (Nat.le_of_ble_eq_true rfl) dX5_row_43 ?_
            refine pw_aload_n C dX5_row_46 rfl 0 rfl ?_
            refine pw_iload_n C dX5_row_47 rfl 3 rfl ?_
            obtain ⟨r48, m48, hc48, h⟩ := fn_bi_s h
            refine pw_callVi (rest := []) C (by decide) (pw_sh_0 _) rfl (ct_X5_foundNothing l C.2.2.2.2.2.2.2.2 hc48) (cwV 1 C.2.2.2.2.1 gX5_row_X5_foundNothing rfl rfl rfl (by decide +kernel) ⟨Nat.le_of_ble_eq_true rfl, Nat.le_of_ble_eq_true rfl⟩) rfl rfl (Nat.le_of_ble_eq_true rfl) dX5_row_48 ?_
            exact pw_iret C h dX5_row_51
          · have h := fn_neg c26 h
            refine pw_aload_n C dX5_row_29 rfl 0 rfl ?_
            refine pw_iconst (v := (4 : Int32)) C dX5_row_30 (by decide) ?_
            obtain ⟨r31, m31, hc31, h⟩ := fn_bi_s h
            refine pw_callVi (rest := []) C (by decide) (pw_sh_0 _) rfl (ct_X5_found l C.2.2.2.2.2.2.2.2 hc31) (cwV 1 C.2.2.2.2.1 gX5_row_X5_found rfl rfl rfl (by decide +kernel) ⟨Nat.le_of_ble_eq_true rfl, Nat.le_of_ble_eq_true rfl⟩) rfl rfl (Nat.le_of_ble_eq_true rfl) dX5_row_31 ?_
            exact pw_iret C h dX5_row_34
        · have h := fn_neg c19 h
          refine pw_ldc C k1 dX5_row_22 ?_
          exact pw_iret C h dX5_row_24
