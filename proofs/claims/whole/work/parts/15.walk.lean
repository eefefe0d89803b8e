set_option maxHeartbeats 4000000 in
set_option maxRecDepth 100000 in
theorem ct_X1_begin_w (l : Launch) {G : pw_G} (hG : pw_Ok G) (n : Nat) (f : Int32 → Nat → Int32 → Int32 → pw_Mem → Option (Int32 × pw_Mem)) (hf : ∀ {a1 : Int32} {o2 : Nat} {a3 a4 : Int32}, pw_KD o2 → ∀ {μ μ' : pw_Mem} {r : Int32}, f a1 o2 a3 a4 μ = some (r, μ') → Met l yX1_give wsX1_give ({ frames := 2 * n + 1, cells := 0, slots := 0, locals := 60 * n + 60 }) (va_Pc [.ref (gad G 22), .int a1, .ref (gad G o2), .int a3, .int a4] (pw_Pre G μ)) (va_Qi (fun (r1 : Int32) (u : pw_Mem) => r1 = r ∧ u = μ') (pw_B G) (gA G)) 0 0 (gA G)) {o1 : Nat} {a2 : Int32} {a3 : Int32} {a4 : Int32} (ho1 : pw_KD o1) {μ μ' : pw_Mem} {r : Int32} (h : fn_X1_begin_w f o1 a2 a3 a4 μ = some (r, μ')) : Met l yX1_begin wsX1_begin ({ frames := 2 * n + 2, cells := 0, slots := 0, locals := 60 * n + 90 }) (va_Pc [.ref (gad G 22), .ref (gad G o1), .int a2, .int a3, .int a4] (pw_Pre G μ)) (va_Qi (fun (r1 : Int32) (u : pw_Mem) => r1 = r ∧ u = μ') (pw_B G) (gA G)) 0 0 (gA G) := by
  refine pw_met (lv := [(0, .ref (gad G 22)), (1, .ref (gad G o1)), (2, .int a2), (3, .int a3), (4, .int a4)]) (own := RX1) (cc := cX1_begin) (maxL := 5) (ret := some .int) hG rfl (by decide) rfl rfl (Nat.le_of_ble_eq_true rfl) ?_
  intro p e s m below meth c C
  have iX2 : ∀ w ∈ u_ws RX2 TX2 12, w ∈ wsX1_begin := fun _ h => List.mem_cons_of_mem _ (List.mem_append_left _ (List.mem_append_right _ (h)))
  unfold fn_X1_begin_w at h
  refine pw_aload_n C dX1_begin_0 rfl 0 rfl ?_
  refine pw_aload_n C dX1_begin_1 rfl 1 rfl ?_
  refine pw_getN (v := .ref (gad G (o1 + 3))) C iX2 (pw_ltD ho1) (pw_shD ho1 _) rfl 8 (by decide) 18 rfl rfl dX1_begin_2 ?_
  refine pw_iload_n C dX1_begin_5 rfl 2 rfl ?_
  obtain ⟨hi6, h⟩ := fn_ix_s h
  refine pw_iald C (pw_ltD6 ho1 3 (by decide)) ((pw_shD3 ho1) _) hi6 dX1_begin_6 ?_
  refine pw_iload_n C dX1_begin_7 rfl 3 rfl ?_
  obtain ⟨r8, m8, hc8, h⟩ := fn_bi_s h
  refine pw_callSi (rest := [.ref (gad G 22)]) C (ct_X1_bodyOf l C.2.2.2.2.2.2.2.2 hc8) (va_cwS 2 C.2.2.2.2.1 gX1_begin_X1_bodyOf rfl rfl rfl (by decide +kernel) ⟨by show _ + 1 ≤ _; simp only []; omega, by show 8 + (_ + 11) + _ ≤ _; simp only []; omega⟩) rfl rfl (Nat.le_of_ble_eq_true rfl) dX1_begin_8 ?_
  refine pw_aload_n C dX1_begin_11 rfl 1 rfl ?_
  refine pw_iload_n C dX1_begin_12 rfl 2 rfl ?_
  refine pw_iload C dX1_begin_13 4 rfl ?_
  obtain ⟨r15, m15, hc15, h⟩ := fn_bi_s h
  refine pw_callVi (rest := []) C (by decide) (pw_sh_22 _) rfl (hf ho1 hc15) (cwV 4 C.2.2.2.2.1 gX1_begin_X1_give rfl rfl rfl (by decide +kernel) ⟨by show _ + 1 ≤ _; simp only []; omega, by show 8 + (_ + 11) + _ ≤ _; simp only []; omega⟩) rfl rfl (Nat.le_of_ble_eq_true rfl) dX1_begin_15 ?_
  exact pw_iret C h dX1_begin_18
set_option maxHeartbeats 4000000 in
set_option maxRecDepth 100000 in
theorem ct_X1_give (l : Launch) {G : pw_G} (hG : pw_Ok G) (n : Nat) : ∀ {a1 : Int32} {o2 : Nat} {a3 a4 : Int32}, pw_KD o2 → ∀ {μ μ' : pw_Mem} {r : Int32}, fn_X1_give n a1 o2 a3 a4 μ = some (r, μ') → Met l yX1_give wsX1_give ({ frames := 2 * n + 1, cells := 0, slots := 0, locals := 60 * n + 60 }) (va_Pc [.ref (gad G 22), .int a1, .ref (gad G o2), .int a3, .int a4] (pw_Pre G μ)) (va_Qi (fun (r1 : Int32) (u : pw_Mem) => r1 = r ∧ u = μ') (pw_B G) (gA G)) 0 0 (gA G) := by
  induction n with
  | zero => intro a1 o2 a3 a4 ho2 μ μ' r h; exact nomatch (show (none : Option (Int32 × pw_Mem)) = some _ from h)
  | succ n ih =>
    intro a1 o2 a3 a4 ho2 μ μ' r h
    refine pw_met (lv := [(0, .ref (gad G 22)), (1, .int a1), (2, .ref (gad G o2)), (3, .int a3), (4, .int a4)]) (own := RX1) (cc := cX1_give) (maxL := 6) (ret := some .int) hG rfl (by decide) rfl rfl (Nat.le_of_ble_eq_true rfl) ?_
    intro p e s m below meth c C
    have iX2 : ∀ w ∈ u_ws RX2 TX2 12, w ∈ wsX1_give := fun _ h => List.mem_cons_of_mem _ (List.mem_append_left _ (List.mem_append_right _ (h)))
    rw [fn_X1_give] at h
    refine pw_iload C dX1_give_0 4 rfl ?_
    refine pw_bipush (v := (16 : Int32)) C dX1_give_2 (by decide) ?_
    refine pw_icmp_le (tgt := 9) C dX1_give_4 (by decide) (fun c4 => ?_) (fun c4 => ?_)
    · have h := fn_pos c4 h
      refine pw_aload_n C dX1_give_9 rfl 0 rfl ?_
      refine pw_iload_n C dX1_give_10 rfl 1 rfl ?_
      obtain ⟨m11, hc11, h⟩ := fn_bv_s h
      refine pw_callVv (rest := []) C (by decide) (pw_sh_22 _) rfl (ct_X1_leave l C.2.2.2.2.2.2.2.2 hc11) (cwV 1 C.2.2.2.2.1 gX1_give_X1_leave rfl rfl rfl (by decide +kernel) ⟨by show _ + 1 ≤ _; simp only []; omega, by show 8 + (_ + 11) + _ ≤ _; simp only []; omega⟩) rfl rfl (Nat.le_of_ble_eq_true rfl) dX1_give_11 ?_
      refine pw_iload C dX1_give_14 4 rfl ?_
      refine pw_iconst (v := (1 : Int32)) C dX1_give_16 (by decide) ?_
      refine pw_iadd C dX1_give_17 ?_
      refine pw_istore (lv' := [(5, .int (a4 + (1 : Int32))), (0, .ref (gad G 22)), (1, .int a1), (2, .ref (gad G o2)), (3, .int a3), (4, .int a4)]) C dX1_give_18 (by decide) rfl ?_
      refine pw_iload_n C dX1_give_20 rfl 2 rfl ?_
      by_cases c21_10 : a1 = 10
      · have h := fn_pos c21_10 h
        refine pw_tabIn (tgt := 96) C 10 c21_10 dX1_give_21 (by decide) (by decide) rfl (by decide) ?_
        refine pw_aload_n C dX1_give_96 rfl 3 rfl ?_
        refine pw_getN (v := .ref (gad G (o2 + 5))) C iX2 (pw_ltD ho2) (pw_shD ho2 _) rfl 10 (by decide) 26 rfl rfl dX1_give_97 ?_
        refine pw_iload_n C dX1_give_100 rfl 4 rfl ?_
        obtain ⟨hi101, h⟩ := fn_ix_s h
        refine pw_iald C (pw_ltD6 ho2 5 (by decide)) ((pw_shD5 ho2) _) hi101 dX1_give_101 ?_
        exact pw_iret C h dX1_give_102
      · have h := fn_neg c21_10 h
        have n21_10 := pw_neI c21_10 (show (10 : Int32).toInt = 10 by decide)
        by_cases c21_11 : a1 = 11
        · have h := fn_pos c21_11 h
          refine pw_tabIn (tgt := 103) C 11 c21_11 dX1_give_21 (by decide) (by decide) rfl (by decide) ?_
          refine pw_aload_n C dX1_give_103 rfl 1 rfl ?_
          refine pw_bipush (v := (10 : Int32)) C dX1_give_104 (by decide) ?_
          refine pw_aload_n C dX1_give_106 rfl 3 rfl ?_
          refine pw_iload_n C dX1_give_107 rfl 4 rfl ?_
          refine pw_iload C dX1_give_108 0 rfl ?_
          obtain ⟨r110, m110, hc110, h⟩ := fn_bi_s h
          refine pw_callVi (rest := []) C (by decide) (pw_sh_22 _) rfl (ih ho2 hc110) (cwV 4 C.2.2.2.2.1 gX1_give_X1_give rfl rfl rfl (by decide +kernel) ⟨by show _ + 1 ≤ _; simp only []; omega, by show 8 + (_ + 11) + _ ≤ _; simp only []; omega⟩) rfl rfl (Nat.le_of_ble_eq_true rfl) dX1_give_110 ?_
          refine pw_aload_n C dX1_give_113 rfl 1 rfl ?_
          refine pw_aload_n C dX1_give_114 rfl 3 rfl ?_
          refine pw_iload_n C dX1_give_115 rfl 4 rfl ?_
          refine pw_iconst (v := (1 : Int32)) C dX1_give_116 (by decide) ?_
          refine pw_iload C dX1_give_117 0 rfl ?_
          obtain ⟨r119, m119, hc119, h⟩ := fn_bi_s h
          refine pw_callVi (rest := [.int r110]) C (by decide) (pw_sh_22 _) rfl (ct_X1_begin_w l C.2.2.2.2.2.2.2.2 n (fn_X1_give n) ih ho2 hc119) (cwV 4 C.2.2.2.2.1 gX1_give_X1_begin rfl rfl rfl (by decide +kernel) ⟨by show _ + 1 ≤ _; simp only []; omega, by show 8 + (_ + 11) + _ ≤ _; simp only []; omega⟩) rfl rfl (Nat.le_of_ble_eq_true rfl) dX1_give_119 ?_
          refine pw_iadd C dX1_give_122 ?_
          exact pw_iret C h dX1_give_123
        · have h := fn_neg c21_11 h
          have n21_11 := pw_neI c21_11 (show (11 : Int32).toInt = 11 by decide)
          by_cases c21_12 : a1 = 12
          · have h := fn_pos c21_12 h
            refine pw_tabIn (tgt := 124) C 12 c21_12 dX1_give_21 (by decide) (by decide) rfl (by decide) ?_
            refine pw_aload_n C dX1_give_124 rfl 1 rfl ?_
            refine pw_bipush (v := (11 : Int32)) C dX1_give_125 (by decide) ?_
            refine pw_aload_n C dX1_give_127 rfl 3 rfl ?_
            refine pw_iload_n C dX1_give_128 rfl 4 rfl ?_
            refine pw_iload C dX1_give_129 0 rfl ?_
            obtain ⟨r131, m131, hc131, h⟩ := fn_bi_s h
            refine pw_callVi (rest := []) C (by decide) (pw_sh_22 _) rfl (ih ho2 hc131) (cwV 4 C.2.2.2.2.1 gX1_give_X1_give rfl rfl rfl (by decide +kernel) ⟨by show _ + 1 ≤ _; simp only []; omega, by show 8 + (_ + 11) + _ ≤ _; simp only []; omega⟩) rfl rfl (Nat.le_of_ble_eq_true rfl) dX1_give_131 ?_
            refine pw_ineg C dX1_give_134 ?_
            exact pw_iret C h dX1_give_135
          · have h := fn_neg c21_12 h
            have n21_12 := pw_neI c21_12 (show (12 : Int32).toInt = 12 by decide)
            by_cases c21_13 : a1 = 13
            · have h := fn_pos c21_13 h
              refine pw_tabIn (tgt := 136) C 13 c21_13 dX1_give_21 (by decide) (by decide) rfl (by decide) ?_
              refine pw_aload_n C dX1_give_136 rfl 1 rfl ?_
              refine pw_bipush (v := (10 : Int32)) C dX1_give_137 (by decide) ?_
              refine pw_aload_n C dX1_give_139 rfl 3 rfl ?_
              refine pw_iload_n C dX1_give_140 rfl 4 rfl ?_
              refine pw_iload C dX1_give_141 0 rfl ?_
              obtain ⟨r143, m143, hc143, h⟩ := fn_bi_s h
              refine pw_callVi (rest := []) C (by decide) (pw_sh_22 _) rfl (ih ho2 hc143) (cwV 4 C.2.2.2.2.1 gX1_give_X1_give rfl rfl rfl (by decide +kernel) ⟨by show _ + 1 ≤ _; simp only []; omega, by show 8 + (_ + 11) + _ ≤ _; simp only []; omega⟩) rfl rfl (Nat.le_of_ble_eq_true rfl) dX1_give_143 ?_
              refine pw_bipush (v := (100 : Int32)) C dX1_give_146 (by decide) ?_
              refine pw_isub C dX1_give_148 ?_
              exact pw_iret C h dX1_give_149
            · have h := fn_neg c21_13 h
              have n21_13 := pw_neI c21_13 (show (13 : Int32).toInt = 13 by decide)
              by_cases c21_14 : a1 = 14
              · have h := fn_pos c21_14 h
                refine pw_tabIn (tgt := 150) C 14 c21_14 dX1_give_21 (by decide) (by decide) rfl (by decide) ?_
                refine pw_iconst (v := (2 : Int32)) C dX1_give_150 (by decide) ?_
                refine pw_aload_n C dX1_give_151 rfl 1 rfl ?_
                refine pw_bipush (v := (13 : Int32)) C dX1_give_152 (by decide) ?_
                refine pw_aload_n C dX1_give_154 rfl 3 rfl ?_
                refine pw_iload_n C dX1_give_155 rfl 4 rfl ?_
                refine pw_iload C dX1_give_156 0 rfl ?_
                obtain ⟨r158, m158, hc158, h⟩ := fn_bi_s h
                refine pw_callVi (rest := [.int (2 : Int32)]) C (by decide) (pw_sh_22 _) rfl (ih ho2 hc158) (cwV 4 C.2.2.2.2.1 gX1_give_X1_give rfl rfl rfl (by decide +kernel) ⟨by show _ + 1 ≤ _; simp only []; omega, by show 8 + (_ + 11) + _ ≤ _; simp only []; omega⟩) rfl rfl (Nat.le_of_ble_eq_true rfl) dX1_give_158 ?_
                refine pw_imul C dX1_give_161 ?_
                exact pw_iret C h dX1_give_162
              · have h := fn_neg c21_14 h
                have n21_14 := pw_neI c21_14 (show (14 : Int32).toInt = 14 by decide)
                by_cases c21_20 : a1 = 20
                · have h := fn_pos c21_20 h
                  refine pw_tabIn (tgt := 163) C 20 c21_20 dX1_give_21 (by decide) (by decide) rfl (by decide) ?_
                  refine pw_iload_n C dX1_give_163 rfl 4 rfl ?_
                  exact pw_iret C h dX1_give_164
                · have h := fn_neg c21_20 h
                  have n21_20 := pw_neI c21_20 (show (20 : Int32).toInt = 20 by decide)
                  by_cases c21_21 : a1 = 21
                  · have h := fn_pos c21_21 h
                    refine pw_tabIn (tgt := 165) C 21 c21_21 dX1_give_21 (by decide) (by decide) rfl (by decide) ?_
                    refine pw_aload_n C dX1_give_165 rfl 1 rfl ?_
                    refine pw_bipush (v := (20 : Int32)) C dX1_give_166 (by decide) ?_
                    refine pw_aload_n C dX1_give_168 rfl 3 rfl ?_
                    refine pw_iload_n C dX1_give_169 rfl 4 rfl ?_
                    refine pw_iload C dX1_give_170 0 rfl ?_
                    obtain ⟨r172, m172, hc172, h⟩ := fn_bi_s h
                    refine pw_callVi (rest := []) C (by decide) (pw_sh_22 _) rfl (ih ho2 hc172) (cwV 4 C.2.2.2.2.1 gX1_give_X1_give rfl rfl rfl (by decide +kernel) ⟨by show _ + 1 ≤ _; simp only []; omega, by show 8 + (_ + 11) + _ ≤ _; simp only []; omega⟩) rfl rfl (Nat.le_of_ble_eq_true rfl) dX1_give_172 ?_
                    refine pw_aload_n C dX1_give_175 rfl 3 rfl ?_
                    refine pw_getN (v := .ref (gad G (o2 + 4))) C iX2 (pw_ltD ho2) (pw_shD ho2 _) rfl 9 (by decide) 22 rfl rfl dX1_give_176 ?_
                    refine pw_iload_n C dX1_give_179 rfl 4 rfl ?_
                    obtain ⟨hi180, h⟩ := fn_ix_s h
                    refine pw_iald C (pw_ltD6 ho2 4 (by decide)) ((pw_shD4 ho2) _) hi180 dX1_give_180 ?_
                    refine pw_iadd C dX1_give_181 ?_
                    exact pw_iret C h dX1_give_182
                  · have h := fn_neg c21_21 h
                    have n21_21 := pw_neI c21_21 (show (21 : Int32).toInt = 21 by decide)
                    by_cases c21_22 : a1 = 22
                    · have h := fn_pos c21_22 h
                      refine pw_tabIn (tgt := 183) C 22 c21_22 dX1_give_21 (by decide) (by decide) rfl (by decide) ?_
                      refine pw_aload_n C dX1_give_183 rfl 1 rfl ?_
                      refine pw_bipush (v := (21 : Int32)) C dX1_give_184 (by decide) ?_
                      refine pw_aload_n C dX1_give_186 rfl 3 rfl ?_
                      refine pw_iload_n C dX1_give_187 rfl 4 rfl ?_
                      refine pw_iload C dX1_give_188 0 rfl ?_
                      obtain ⟨r190, m190, hc190, h⟩ := fn_bi_s h
                      refine pw_callVi (rest := []) C (by decide) (pw_sh_22 _) rfl (ih ho2 hc190) (cwV 4 C.2.2.2.2.1 gX1_give_X1_give rfl rfl rfl (by decide +kernel) ⟨by show _ + 1 ≤ _; simp only []; omega, by show 8 + (_ + 11) + _ ≤ _; simp only []; omega⟩) rfl rfl (Nat.le_of_ble_eq_true rfl) dX1_give_190 ?_
                      refine pw_sipush (v := (1000 : Int32)) C dX1_give_193 (by decide) ?_
                      refine pw_isub C dX1_give_196 ?_
                      exact pw_iret C h dX1_give_197
                    · have h := fn_neg c21_22 h
                      have n21_22 := pw_neI c21_22 (show (22 : Int32).toInt = 22 by decide)
                      by_cases c21_23 : a1 = 23
                      · have h := fn_pos c21_23 h
                        refine pw_tabIn (tgt := 198) C 23 c21_23 dX1_give_21 (by decide) (by decide) rfl (by decide) ?_
                        refine pw_aload_n C dX1_give_198 rfl 1 rfl ?_
                        refine pw_bipush (v := (20 : Int32)) C dX1_give_199 (by decide) ?_
                        refine pw_aload_n C dX1_give_201 rfl 3 rfl ?_
                        refine pw_iload_n C dX1_give_202 rfl 4 rfl ?_
                        refine pw_iload C dX1_give_203 0 rfl ?_
                        obtain ⟨r205, m205, hc205, h⟩ := fn_bi_s h
                        refine pw_callVi (rest := []) C (by decide) (pw_sh_22 _) rfl (ih ho2 hc205) (cwV 4 C.2.2.2.2.1 gX1_give_X1_give rfl rfl rfl (by decide +kernel) ⟨by show _ + 1 ≤ _; simp only []; omega, by show 8 + (_ + 11) + _ ≤ _; simp only []; omega⟩) rfl rfl (Nat.le_of_ble_eq_true rfl) dX1_give_205 ?_
                        refine pw_aload_n C dX1_give_208 rfl 1 rfl ?_
                        refine pw_aload_n C dX1_give_209 rfl 3 rfl ?_
                        refine pw_iload_n C dX1_give_210 rfl 4 rfl ?_
                        refine pw_iconst (v := (0 : Int32)) C dX1_give_211 (by decide) ?_
                        refine pw_iload C dX1_give_212 0 rfl ?_
                        obtain ⟨r214, m214, hc214, h⟩ := fn_bi_s h
                        refine pw_callVi (rest := [.int r205]) C (by decide) (pw_sh_22 _) rfl (ct_X1_begin_w l C.2.2.2.2.2.2.2.2 n (fn_X1_give n) ih ho2 hc214) (cwV 4 C.2.2.2.2.1 gX1_give_X1_begin rfl rfl rfl (by decide +kernel) ⟨by show _ + 1 ≤ _; simp only []; omega, by show 8 + (_ + 11) + _ ≤ _; simp only []; omega⟩) rfl rfl (Nat.le_of_ble_eq_true rfl) dX1_give_214 ?_
                        refine pw_isub C dX1_give_217 ?_
                        exact pw_iret C h dX1_give_218
                      · have h := fn_neg c21_23 h
                        have n21_23 := pw_neI c21_23 (show (23 : Int32).toInt = 23 by decide)
                        by_cases c21_24 : a1 = 24
                        · have h := fn_pos c21_24 h
                          refine pw_tabIn (tgt := 219) C 24 c21_24 dX1_give_21 (by decide) (by decide) rfl (by decide) ?_
                          refine pw_iconst (v := (2 : Int32)) C dX1_give_219 (by decide) ?_
                          refine pw_aload_n C dX1_give_220 rfl 1 rfl ?_
                          refine pw_bipush (v := (21 : Int32)) C dX1_give_221 (by decide) ?_
                          refine pw_aload_n C dX1_give_223 rfl 3 rfl ?_
                          refine pw_iload_n C dX1_give_224 rfl 4 rfl ?_
                          refine pw_iload C dX1_give_225 0 rfl ?_
                          obtain ⟨r227, m227, hc227, h⟩ := fn_bi_s h
                          refine pw_callVi (rest := [.int (2 : Int32)]) C (by decide) (pw_sh_22 _) rfl (ih ho2 hc227) (cwV 4 C.2.2.2.2.1 gX1_give_X1_give rfl rfl rfl (by decide +kernel) ⟨by show _ + 1 ≤ _; simp only []; omega, by show 8 + (_ + 11) + _ ≤ _; simp only []; omega⟩) rfl rfl (Nat.le_of_ble_eq_true rfl) dX1_give_227 ?_
                          refine pw_imul C dX1_give_230 ?_
                          exact pw_iret C h dX1_give_231
                        · have h := fn_neg c21_24 h
                          have n21_24 := pw_neI c21_24 (show (24 : Int32).toInt = 24 by decide)
                          by_cases c21_15 : a1 = 15
                          · refine pw_tabIn (tgt := 232) C 15 c21_15 dX1_give_21 (by decide) (by decide) rfl (by decide) ?_
                            refine pw_iconst (v := (0 : Int32)) C dX1_give_232 (by decide) ?_
                            exact pw_iret C h dX1_give_233
                          · have n21_15 := pw_neI c21_15 (show (15 : Int32).toInt = 15 by decide)
                            by_cases c21_16 : a1 = 16
                            · refine pw_tabIn (tgt := 232) C 16 c21_16 dX1_give_21 (by decide) (by decide) rfl (by decide) ?_
                              refine pw_iconst (v := (0 : Int32)) C dX1_give_232 (by decide) ?_
                              exact pw_iret C h dX1_give_233
                            · have n21_16 := pw_neI c21_16 (show (16 : Int32).toInt = 16 by decide)
                              by_cases c21_17 : a1 = 17
                              · refine pw_tabIn (tgt := 232) C 17 c21_17 dX1_give_21 (by decide) (by decide) rfl (by decide) ?_
                                refine pw_iconst (v := (0 : Int32)) C dX1_give_232 (by decide) ?_
                                exact pw_iret C h dX1_give_233
                              · have n21_17 := pw_neI c21_17 (show (17 : Int32).toInt = 17 by decide)
                                by_cases c21_18 : a1 = 18
                                · refine pw_tabIn (tgt := 232) C 18 c21_18 dX1_give_21 (by decide) (by decide) rfl (by decide) ?_
                                  refine pw_iconst (v := (0 : Int32)) C dX1_give_232 (by decide) ?_
                                  exact pw_iret C h dX1_give_233
                                · have n21_18 := pw_neI c21_18 (show (18 : Int32).toInt = 18 by decide)
                                  by_cases c21_19 : a1 = 19
                                  · refine pw_tabIn (tgt := 232) C 19 c21_19 dX1_give_21 (by decide) (by decide) rfl (by decide) ?_
                                    refine pw_iconst (v := (0 : Int32)) C dX1_give_232 (by decide) ?_
                                    exact pw_iret C h dX1_give_233
                                  · have n21_19 := pw_neI c21_19 (show (19 : Int32).toInt = 19 by decide)
                                    refine pw_tabOut (tgt := 232) C dX1_give_21 (by omega) (by decide) ?_
                                    refine pw_iconst (v := (0 : Int32)) C dX1_give_232 (by decide) ?_
                                    exact pw_iret C h dX1_give_233
    · have h := fn_neg c4 h
      refine pw_iconst (v := (0 : Int32)) C dX1_give_7 (by decide) ?_
      exact pw_iret C h dX1_give_8
theorem ct_X1_begin (l : Launch) {G : pw_G} (hG : pw_Ok G) {o1 : Nat} {a2 a3 a4 : Int32} (ho1 : pw_KD o1) {μ μ' : pw_Mem} {r : Int32} (h : fn_X1_begin o1 a2 a3 a4 μ = some (r, μ')) : Met l yX1_begin wsX1_begin ({ frames := 18, cells := 0, slots := 0, locals := 570 }) (va_Pc [.ref (gad G 22), .ref (gad G o1), .int a2, .int a3, .int a4] (pw_Pre G μ)) (va_Qi (fun (r1 : Int32) (u : pw_Mem) => r1 = r ∧ u = μ') (pw_B G) (gA G)) 0 0 (gA G) := ct_X1_begin_w l hG 8 (fn_X1_give 8) (ct_X1_give l hG 8) ho1 h
set_option maxHeartbeats 4000000 in
set_option maxRecDepth 100000 in
theorem ct_X5_ask (l : Launch) {G : pw_G} (hG : pw_Ok G) {a1 : Int32} {a2 : Int32}  {μ μ' : pw_Mem} {r : Int32} (h : fn_X5_ask a1 a2 μ = some (r, μ')) : Met l yX5_ask wsX5_ask ({ frames := 19, cells := 0, slots := 0, locals := 594 }) (va_Pc [.ref (gad G 0), .int a1, .int a2] (pw_Pre G μ)) (va_Qi (fun (r1 : Int32) (u : pw_Mem) => r1 = r ∧ u = μ') (pw_B G) (gA G)) 0 0 (gA G) := by
  refine pw_met (lv := [(0, .ref (gad G 0)), (1, .int a1), (2, .int a2)]) (own := RX5) (cc := cX5_ask) (maxL := 3) (ret := some .int) hG rfl (by decide) rfl rfl (Nat.le_of_ble_eq_true rfl) ?_
  intro p e s m below meth c C
  have iX1 : ∀ w ∈ u_ws RX1 TX1 2, w ∈ wsX5_ask := fun _ h => List.mem_cons_of_mem _ (List.mem_append_left _ (List.mem_append_right _ (h)))
  have iX5 : ∀ w ∈ u_ws RX5 TX5 10, w ∈ wsX5_ask := fun _ h => List.mem_cons_of_mem _ (List.mem_append_left _ (List.mem_append_left _ (List.mem_append_right _ (h))))
  have k1 := C.2.2.2.2.1 (.constant RX5 59 (-1000001)) (List.mem_cons_of_mem _ (List.mem_append_left _ (List.mem_append_left _ (List.mem_append_left _ (List.mem_append_left _ (List.mem_of_getElem? (i := 0) rfl))))))
  have k12 := C.2.2.2.2.1 (.instanceMethod yX1_begin) (List.mem_cons_of_mem _ (List.mem_append_left _ (List.mem_append_left _ (List.mem_append_left _ (List.mem_append_left _ (List.mem_of_getElem? (i := 11) rfl))))))
  have k13 := C.2.2.2.2.1 (.initialized RX1) (List.mem_cons_of_mem _ (List.mem_append_left _ (List.mem_append_left _ (List.mem_append_left _ (List.mem_append_left _ (List.mem_of_getElem? (i := 12) rfl))))))
  have k14 := C.2.2.2.2.1 (.selects RX1 yX1_begin yX1_begin) (List.mem_cons_of_mem _ (List.mem_append_left _ (List.mem_append_left _ (List.mem_append_left _ (List.mem_append_left _ (List.mem_of_getElem? (i := 13) rfl))))))
  have k2 := C.2.2.2.2.1 (.fieldLink RX5 50 "PulpitRoads" "bodies" "LPulpitRoads$Bodies;") (List.mem_cons_of_mem _ (List.mem_append_left _ (List.mem_append_left _ (List.mem_append_left _ (List.mem_append_left _ (List.mem_of_getElem? (i := 1) rfl))))))
  have k3 := C.2.2.2.2.1 (.fieldLink RX5 25 "PulpitRoads" "now" "LPulpitRoads$Road;") (List.mem_cons_of_mem _ (List.mem_append_left _ (List.mem_append_left _ (List.mem_append_left _ (List.mem_append_left _ (List.mem_of_getElem? (i := 2) rfl))))))
  have nm25 : va_Nw (.methodLinkNest RX5 258 yX1_begin "PulpitRoads") s := C.2.2.2.2.2.2.2.1.2.1.2 ("PulpitRoads", 258, ⟨"PulpitRoads$Bodies", "begin", "(LPulpitRoads$Road;III)I"⟩, "PulpitRoads") (List.mem_of_getElem? (i := 25) rfl)
  unfold fn_X5_ask at h
  refine pw_aload_n C dX5_ask_0 rfl 0 rfl ?_
  refine pw_iload_n C dX5_ask_1 rfl 1 rfl ?_
  obtain ⟨r2, m2, hc2, h⟩ := fn_bi_s h
  refine pw_callVi (rest := []) C (by decide) (pw_sh_0 _) rfl (ct_X5_isPulpit l C.2.2.2.2.2.2.2.2 hc2) (cwV 1 C.2.2.2.2.1 gX5_ask_X5_isPulpit rfl rfl rfl (by decide +kernel) ⟨Nat.le_of_ble_eq_true rfl, Nat.le_of_ble_eq_true rfl⟩) rfl rfl (Nat.le_of_ble_eq_true rfl) dX5_ask_2 ?_
  refine pw_if_eq (tgt := 17) C dX5_ask_5 (by decide) (fun c5 => ?_) (fun c5 => ?_)
  · have h := fn_pos c5 h
    refine pw_ldc C k1 dX5_ask_17 ?_
    exact pw_iret C h dX5_ask_19
  · have h := fn_neg c5 h
    refine pw_iload_n C dX5_ask_8 rfl 2 rfl ?_
    refine pw_iconst (v := (0 : Int32)) C dX5_ask_9 (by decide) ?_
    refine pw_iconst (v := (1 : Int32)) C dX5_ask_10 (by decide) ?_
    obtain ⟨r11, m11, hc11, h⟩ := fn_bi_s h
    refine pw_callSi (rest := []) C (ct_X5_isWithin l C.2.2.2.2.2.2.2.2 hc11) (va_cwS 3 C.2.2.2.2.1 gX5_ask_X5_isWithin rfl rfl rfl (by decide +kernel) ⟨Nat.le_of_ble_eq_true rfl, Nat.le_of_ble_eq_true rfl⟩) rfl rfl (Nat.le_of_ble_eq_true rfl) dX5_ask_11 ?_
    refine pw_if_ne (tgt := 20) C dX5_ask_14 (by decide) (fun c14 => ?_) (fun c14 => ?_)
    · have h := fn_pos c14 h
      refine pw_aload_n C dX5_ask_20 rfl 0 rfl ?_
      refine pw_get (v := .ref (gad G 22)) C iX5 (by decide) (pw_sh_0 _) rfl 7 (by decide) k2 rfl dX5_ask_21 ?_
      refine pw_iconst (v := (0 : Int32)) C dX5_ask_24 (by decide) ?_
      refine pw_putN (host := "PulpitRoads") (ty := .int) C iX1 tyX1 tyX1_ok nmX1 (by decide) (pw_sh_22 _) rfl 1 (by decide) (pw_sh_22 _) 32 rfl rfl (by decide +kernel) (fn_int _) (Nat.le_of_ble_eq_true rfl) dX5_ask_25 ?_
      refine pw_aload_n C dX5_ask_28 rfl 0 rfl ?_
      refine pw_get (v := .ref (gad G 22)) C iX5 (by decide) (pw_sh_0 _) rfl 7 (by decide) k2 rfl dX5_ask_29 ?_
      refine pw_aload_n C dX5_ask_32 rfl 0 rfl ?_
      refine pw_get (v := .ref (gad G 4)) C iX5 (by decide) (pw_sh_0 _) rfl 2 (by decide) k3 rfl dX5_ask_33 ?_
      refine pw_iload_n C dX5_ask_36 rfl 1 rfl ?_
      refine pw_iload_n C dX5_ask_37 rfl 2 rfl ?_
      refine pw_iconst (v := (0 : Int32)) C dX5_ask_38 (by decide) ?_
      obtain ⟨r39, m39, hc39, h⟩ := fn_bi_s h
      refine pw_callVNi (rest := []) C (by decide) (pw_sh_22 _) rfl (ct_X1_begin l C.2.2.2.2.2.2.2.2 pw_K4 hc39) ⟨va_cnB 4 C.2.2.2.2.1 gX5_ask_X1_begin_n258 rfl rfl rfl nm25 k13 (by decide +kernel) ⟨Nat.le_of_ble_eq_true rfl, Nat.le_of_ble_eq_true rfl⟩, k12, k14⟩ rfl rfl (Nat.le_of_ble_eq_true rfl) dX5_ask_39 ?_
      exact pw_iret C h dX5_ask_42
    · have h := fn_neg c14 h
      refine pw_ldc C k1 dX5_ask_17 ?_
      exact pw_iret C h dX5_ask_19
