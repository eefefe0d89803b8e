/-! the law's loop -/
set_option maxHeartbeats 4000000 in
set_option maxRecDepth 100000 in
theorem law_loop {p : Program} {l : Launch} {e : Env} {s : State} {m : MethodId} {b L : Nat} {below : List Frame} {meth : Method} {c : Code} {G : pw_G} {xs : Nat → Int32} (C : pw_F p s m #[Value.ref b] meth c cL_law 4 RL ret wsL_law G) (X : va_X b L xs s s.heap) (hbl : b < s.heap.size) (hG : ∀ q, gA G q → s.heap.size ≤ q) (hL : L ≤ 3072) (hr : meth.sig.returnType = ret) : ∀ (d i : Nat) (μ : pw_Mem), L + 6 ≤ i + d → i ≤ L → Iv μ → lq_Go p l e s m b below meth c G 18 (lq_lv G b i) [] μ := by
  have hbA : ¬ gA G b := fun q => by have := hG b q; omega
  intro d
  induction d with
  | zero => intro i μ h1 h2; omega
  | succ d ih =>
    intro i μ h1 h2 I H locs ls hP hS hl
    have oL : (nI L).toInt = L := nI_toInt (by omega)
    have oi : (nI i).toInt = i := nI_toInt (by omega)
    have o6 : (6 : Int32).toInt = 6 := rfl
    have oS : (nI L - 6).toInt = (L : Int) - 6 := by
      rw [Int32.toInt_sub, oL, o6]
      apply Int.bmod_eq_of_le <;> omega
    refine lv_iload_n C.1 C.2.1 dL_law_18 rfl (lv_at hl 0 rfl) ?_
    refine lv_aload_n C.1 C.2.1 dL_law_19 rfl (lv_at hl 3 rfl) ?_
    refine va_slen C.1 C.2.1 X hbl hbA hS dL_law_20 ?_
    refine lv_bipush (v := 6) C.1 C.2.1 dL_law_21 (by decide) ?_
    refine lv_isub C.1 C.2.1 dL_law_23 ?_
    refine lv_icmp_gt (tgt := 1269) C.1 C.2.1 dL_law_24 (by decide) (fun q => ?_) (fun q => ?_)
    · refine lv_iconst (v := 1) C.1 C.2.1 dL_law_1269 (by decide) ?_
      exact va_forget (fun q hq => hG _ (hS.2.2 q hq)) (lw_ret C.1 C.2.1 hr C.2.2.2.2.2.2.1 dL_law_1270)
    · have hi : i + 6 ≤ L := by
        have q' : ¬ (nI L - 6 < nI i) := q
        rw [bw_lt, oS, oi] at q'
        omega
      have tail : ∀ μ', Iv μ' → lq_Go p l e s m b below meth c G 1263 (lq_lv G b i) [] μ' := by
        intro μ' I' H locs ls hP hS hl
        refine lv_iinc (v := nI (i + 6)) (lv' := lq_lv G b (i + 6)) C.1 C.2.1 dL_law_1263 hl (k := 0) rfl (show nI i + Int32.ofInt 6 = nI (i + 6) from mm_add i 6) (by decide) rfl (fun ls hl => ?_)
        refine lv_goto (tgt := 18) C.1 C.2.1 dL_law_1266 (by decide) ?_
        exact ih (i + 6) μ' (by omega) (by omega) I' H locs ls hP hS hl
      refine lv_aload_n C.1 C.2.1 dL_law_27 rfl (lv_at hl 3 rfl) ?_
      refine lv_iload_n C.1 C.2.1 dL_law_28 rfl (lv_at hl 0 rfl) ?_
      refine va_sld C.1 C.2.1 X hbl hbA hS (show vp_in _ _ from nI_in (by omega) (by omega)) dL_law_29 ?_
      refine lv_bipush (v := 63) C.1 C.2.1 dL_law_30 (by decide) ?_
      refine lv_iand C.1 C.2.1 dL_law_32 ?_
      refine lv_topi (fun y _ => ?_)
      by_cases out : y.toInt < 0 ∨ 34 < y.toInt
      · exact lv_tableOut (tgt := 1263) C.1 C.2.1 dL_law_33 out (by decide) (tail μ I H locs ls hP hS hl)
      · obtain ⟨k, hk, hk2⟩ : ∃ k : Nat, y.toInt = (k : Int) ∧ k < 35 := ⟨y.toInt.toNat, by omega, by omega⟩
        have cs : k = 0 ∨ k = 1 ∨ k = 2 ∨ k = 3 ∨ k = 4 ∨ k = 5 ∨ k = 6 ∨ k = 7 ∨ k = 8 ∨ k = 9 ∨ k = 10 ∨ k = 11 ∨ k = 12 ∨ k = 13 ∨ k = 14 ∨ k = 15 ∨ k = 16 ∨ k = 17 ∨ k = 18 ∨ k = 19 ∨ k = 20 ∨ k = 21 ∨ k = 22 ∨ k = 23 ∨ k = 24 ∨ k = 25 ∨ k = 26 ∨ k = 27 ∨ k = 28 ∨ k = 29 ∨ k = 30 ∨ k = 31 ∨ k = 32 ∨ k = 33 ∨ k = 34 := by omega
        rcases cs with rfl | rfl | rfl | rfl | rfl | rfl | rfl | rfl | rfl | rfl | rfl | rfl | rfl | rfl | rfl | rfl | rfl | rfl | rfl | rfl | rfl | rfl | rfl | rfl | rfl | rfl | rfl | rfl | rfl | rfl | rfl | rfl | rfl | rfl | rfl
        · exact lv_tableIn (off := 155) (tgt := 188) C.1 C.2.1 dL_law_33 (by omega) (by omega) (by rw [hk]; rfl) (by decide) (lc_row C X hbl hbA hL hi I tail H locs ls hP hS hl)
        · exact lv_tableIn (off := 198) (tgt := 231) C.1 C.2.1 dL_law_33 (by omega) (by omega) (by rw [hk]; rfl) (by decide) (lc_set C X hbl hbA hL hi I tail H locs ls hP hS hl)
        · exact lv_tableIn (off := 241) (tgt := 274) C.1 C.2.1 dL_law_33 (by omega) (by omega) (by rw [hk]; rfl) (by decide) (lc_copy C X hbl hbA hL hi I tail H locs ls hP hS hl)
        · exact lv_tableIn (off := 304) (tgt := 337) C.1 C.2.1 dL_law_33 (by omega) (by omega) (by rw [hk]; rfl) (by decide) (lc_drop C X hbl hbA hL hi I tail H locs ls hP hS hl)
        · exact lv_tableIn (off := 327) (tgt := 360) C.1 C.2.1 dL_law_33 (by omega) (by omega) (by rw [hk]; rfl) (by decide) (lc_feed C X hbl hbA hL hi I tail H locs ls hP hS hl)
        · exact lv_tableIn (off := 350) (tgt := 383) C.1 C.2.1 dL_law_33 (by omega) (by omega) (by rw [hk]; rfl) (by decide) (lc_road C X hbl hbA hL hi I tail H locs ls hP hS hl)
        · exact lv_tableIn (off := 363) (tgt := 396) C.1 C.2.1 dL_law_33 (by omega) (by omega) (by rw [hk]; rfl) (by decide) (lc_fault C X hbl hbA hL hi I tail H locs ls hP hS hl)
        · exact lv_tableIn (off := 376) (tgt := 409) C.1 C.2.1 dL_law_33 (by omega) (by omega) (by rw [hk]; rfl) (by decide) (lc_hours C X hbl hbA hL hi I tail H locs ls hP hS hl)
        · exact lv_tableIn (off := 399) (tgt := 432) C.1 C.2.1 dL_law_33 (by omega) (by omega) (by rw [hk]; rfl) (by decide) (lc_put C X hbl hbA hL hi I tail H locs ls hP hS hl)
        · exact lv_tableIn (off := 432) (tgt := 465) C.1 C.2.1 dL_law_33 (by omega) (by omega) (by rw [hk]; rfl) (by decide) (lc_skip C X hbl hbA hL hi I tail H locs ls hP hS hl)
        · exact lv_tableIn (off := 465) (tgt := 498) C.1 C.2.1 dL_law_33 (by omega) (by omega) (by rw [hk]; rfl) (by decide) (lc_forget C X hbl hbA hL hi I tail H locs ls hP hS hl)
        · exact lv_tableIn (off := 488) (tgt := 521) C.1 C.2.1 dL_law_33 (by omega) (by omega) (by rw [hk]; rfl) (by decide) (lc_undo C X hbl hbA hL hi I tail H locs ls hP hS hl)
        · exact lv_tableIn (off := 501) (tgt := 534) C.1 C.2.1 dL_law_33 (by omega) (by omega) (by rw [hk]; rfl) (by decide) (lc_pulpit C X hbl hbA hL hi I tail H locs ls hP hS hl)
        · exact lv_tableIn (off := 534) (tgt := 567) C.1 C.2.1 dL_law_33 (by omega) (by omega) (by rw [hk]; rfl) (by decide) (lc_stretch C X hbl hbA hL hi I tail H locs ls hP hS hl)
        · exact lv_tableIn (off := 567) (tgt := 600) C.1 C.2.1 dL_law_33 (by omega) (by omega) (by rw [hk]; rfl) (by decide) (lc_ahead C X hbl hbA hL hi I tail H locs ls hP hS hl)
        · exact lv_tableIn (off := 610) (tgt := 643) C.1 C.2.1 dL_law_33 (by omega) (by omega) (by rw [hk]; rfl) (by decide) (lc_heard C X hbl hbA hL hi I tail H locs ls hP hS hl)
        · exact lv_tableIn (off := 643) (tgt := 676) C.1 C.2.1 dL_law_33 (by omega) (by omega) (by rw [hk]; rfl) (by decide) (lc_whole C X hbl hbA hL hi I tail H locs ls hP hS hl)
        · exact lv_tableIn (off := 666) (tgt := 699) C.1 C.2.1 dL_law_33 (by omega) (by omega) (by rw [hk]; rfl) (by decide) (lc_first C X hbl hbA hL hi I tail H locs ls hP hS hl)
        · exact lv_tableIn (off := 689) (tgt := 722) C.1 C.2.1 dL_law_33 (by omega) (by omega) (by rw [hk]; rfl) (by decide) (lc_left C X hbl hbA hL hi I tail H locs ls hP hS hl)
        · exact lv_tableIn (off := 712) (tgt := 745) C.1 C.2.1 dL_law_33 (by omega) (by omega) (by rw [hk]; rfl) (by decide) (lc_meet C X hbl hbA hL hi I tail H locs ls hP hS hl)
        · exact lv_tableIn (off := 745) (tgt := 778) C.1 C.2.1 dL_law_33 (by omega) (by omega) (by rw [hk]; rfl) (by decide) (lc_round C X hbl hbA hL hi I tail H locs ls hP hS hl)
        · exact lv_tableIn (off := 758) (tgt := 791) C.1 C.2.1 dL_law_33 (by omega) (by omega) (by rw [hk]; rfl) (by decide) (lc_best C X hbl hbA hL hi I tail H locs ls hP hS hl)
        · exact lv_tableIn (off := 811) (tgt := 844) C.1 C.2.1 dL_law_33 (by omega) (by omega) (by rw [hk]; rfl) (by decide) (lc_piece C X hbl hbA hL hi I tail H locs ls hP hS hl)
        · exact lv_tableIn (off := 834) (tgt := 867) C.1 C.2.1 dL_law_33 (by omega) (by omega) (by rw [hk]; rfl) (by decide) (lc_walk C X hbl hbA hL hi I tail H locs ls hP hS hl)
        · exact lv_tableIn (off := 877) (tgt := 910) C.1 C.2.1 dL_law_33 (by omega) (by omega) (by rw [hk]; rfl) (by decide) (lc_fits C X hbl hbA hL hi I tail H locs ls hP hS hl)
        · exact lv_tableIn (off := 940) (tgt := 973) C.1 C.2.1 dL_law_33 (by omega) (by omega) (by rw [hk]; rfl) (by decide) (lc_axles C X hbl hbA hL hi I tail H locs ls hP hS hl)
        · exact lv_tableIn (off := 993) (tgt := 1026) C.1 C.2.1 dL_law_33 (by omega) (by omega) (by rw [hk]; rfl) (by decide) (lc_drawn C X hbl hbA hL hi I tail H locs ls hP hS hl)
        · exact lv_tableIn (off := 1036) (tgt := 1069) C.1 C.2.1 dL_law_33 (by omega) (by omega) (by rw [hk]; rfl) (by decide) (lc_image C X hbl hbA hL hi I tail H locs ls hP hS hl)
        · exact lv_tableIn (off := 1059) (tgt := 1092) C.1 C.2.1 dL_law_33 (by omega) (by omega) (by rw [hk]; rfl) (by decide) (lc_restore C X hbl hbA hL hi I tail H locs ls hP hS hl)
        · exact lv_tableIn (off := 1082) (tgt := 1115) C.1 C.2.1 dL_law_33 (by omega) (by omega) (by rw [hk]; rfl) (by decide) (lc_kind C X hbl hbA hL hi I tail H locs ls hP hS hl)
        · exact lv_tableIn (off := 1105) (tgt := 1138) C.1 C.2.1 dL_law_33 (by omega) (by omega) (by rw [hk]; rfl) (by decide) (lc_as C X hbl hbA hL hi I tail H locs ls hP hS hl)
        · exact lv_tableIn (off := 1138) (tgt := 1171) C.1 C.2.1 dL_law_33 (by omega) (by omega) (by rw [hk]; rfl) (by decide) (lc_ask C X hbl hbA hL hi I tail H locs ls hP hS hl)
        · exact lv_tableIn (off := 1171) (tgt := 1204) C.1 C.2.1 dL_law_33 (by omega) (by omega) (by rw [hk]; rfl) (by decide) (lc_trace C X hbl hbA hL hi I tail H locs ls hP hS hl)
        · exact lv_tableIn (off := 1194) (tgt := 1227) C.1 C.2.1 dL_law_33 (by omega) (by omega) (by rw [hk]; rfl) (by decide) (lc_count C X hbl hbA hL hi I tail H locs ls hP hS hl)
        · exact lv_tableIn (off := 1217) (tgt := 1250) C.1 C.2.1 dL_law_33 (by omega) (by omega) (by rw [hk]; rfl) (by decide) (lc_status C X hbl hbA hL hi I tail H locs ls hP hS hl)
