/-! the law's cases, 1 -/
section LC
variable {p : Program} {l : Launch} {e : Env} {s : State} {m : MethodId} {b L : Nat} {below : List Frame} {meth : Method} {c : Code} {G : pw_G} {xs : Nat → Int32}
theorem lc_pulpit (C : pw_F p s m #[Value.ref b] meth c cL_law 4 RL ret wsL_law G) (X : va_X b L xs s s.heap) (hbl : b < s.heap.size) (hbA : ¬ gA G b) (hL : L ≤ 3072) {i : Nat} (hi : i + 6 ≤ L) {μ : pw_Mem} (I : Iv μ) (kk : ∀ μ', Iv μ' → lq_Go p l e s m b below meth c G 1263 (lq_lv G b i) [] μ') : lq_Go p l e s m b below meth c G 534 (lq_lv G b i) [] μ := by
  obtain ⟨r, μ1, μ2, h1, h2, I2⟩ := q_pulpit I (xs (i + 1)) (xs (i + 2))
  refine lq_aload_n C dL_law_534 rfl 2 rfl ?_
  refine lq_arg C X hbl hbA hL (i := i) (j := 1) (by omega) (by decide) 3 0 rfl rfl dL_law_535 dL_law_536 dL_law_537 dL_law_538 dL_law_539 ?_
  refine lq_arg C X hbl hbA hL (i := i) (j := 2) (by omega) (by decide) 3 0 rfl rfl dL_law_540 dL_law_541 dL_law_542 dL_law_543 dL_law_544 ?_
  refine lq_call (As := [.int (xs (i + 1)), .int (xs (i + 2))]) (rest := []) C (by decide) (pw_sh_0 _) rfl (ct_X5_pulpit l C.2.2.2.2.2.2.2.2 h1) (cwV 2 C.2.2.2.2.1 gL_law_X5_pulpit rfl rfl rfl (by decide +kernel) ⟨Nat.le_of_ble_eq_true rfl, Nat.le_of_ble_eq_true rfl⟩) rfl rfl (Nat.le_of_ble_eq_true rfl) dL_law_545 ?_
  refine lq_aload_n C dL_law_548 rfl 1 rfl ?_
  refine lq_arg C X hbl hbA hL (i := i) (j := 1) (by omega) (by decide) 3 0 rfl rfl dL_law_549 dL_law_550 dL_law_551 dL_law_552 dL_law_553 ?_
  refine lq_arg C X hbl hbA hL (i := i) (j := 2) (by omega) (by decide) 3 0 rfl rfl dL_law_554 dL_law_555 dL_law_556 dL_law_557 dL_law_558 ?_
  refine lq_call (As := [.int (xs (i + 1)), .int (xs (i + 2))]) (rest := [.int r]) C (by decide) (pw_sh_54 _) rfl (ct_X6_pulpit l C.2.2.2.2.2.2.2.2 h2) (cwV 2 C.2.2.2.2.1 gL_law_X6_pulpit rfl rfl rfl (by decide +kernel) ⟨Nat.le_of_ble_eq_true rfl, Nat.le_of_ble_eq_true rfl⟩) rfl rfl (Nat.le_of_ble_eq_true rfl) dL_law_559 ?_
  exact lq_cmp C dL_law_562 (by decide) (kk μ2 I2)
theorem lc_stretch (C : pw_F p s m #[Value.ref b] meth c cL_law 4 RL ret wsL_law G) (X : va_X b L xs s s.heap) (hbl : b < s.heap.size) (hbA : ¬ gA G b) (hL : L ≤ 3072) {i : Nat} (hi : i + 6 ≤ L) {μ : pw_Mem} (I : Iv μ) (kk : ∀ μ', Iv μ' → lq_Go p l e s m b below meth c G 1263 (lq_lv G b i) [] μ') : lq_Go p l e s m b below meth c G 567 (lq_lv G b i) [] μ := by
  obtain ⟨r, μ1, μ2, h1, h2, I2⟩ := q_stretch I (xs (i + 1)) (xs (i + 2))
  refine lq_aload_n C dL_law_567 rfl 2 rfl ?_
  refine lq_arg C X hbl hbA hL (i := i) (j := 1) (by omega) (by decide) 3 0 rfl rfl dL_law_568 dL_law_569 dL_law_570 dL_law_571 dL_law_572 ?_
  refine lq_arg C X hbl hbA hL (i := i) (j := 2) (by omega) (by decide) 3 0 rfl rfl dL_law_573 dL_law_574 dL_law_575 dL_law_576 dL_law_577 ?_
  refine lq_call (As := [.int (xs (i + 1)), .int (xs (i + 2))]) (rest := []) C (by decide) (pw_sh_0 _) rfl (ct_X5_stretch l C.2.2.2.2.2.2.2.2 h1) (cwV 2 C.2.2.2.2.1 gL_law_X5_stretch rfl rfl rfl (by decide +kernel) ⟨Nat.le_of_ble_eq_true rfl, Nat.le_of_ble_eq_true rfl⟩) rfl rfl (Nat.le_of_ble_eq_true rfl) dL_law_578 ?_
  refine lq_aload_n C dL_law_581 rfl 1 rfl ?_
  refine lq_arg C X hbl hbA hL (i := i) (j := 1) (by omega) (by decide) 3 0 rfl rfl dL_law_582 dL_law_583 dL_law_584 dL_law_585 dL_law_586 ?_
  refine lq_arg C X hbl hbA hL (i := i) (j := 2) (by omega) (by decide) 3 0 rfl rfl dL_law_587 dL_law_588 dL_law_589 dL_law_590 dL_law_591 ?_
  refine lq_call (As := [.int (xs (i + 1)), .int (xs (i + 2))]) (rest := [.int r]) C (by decide) (pw_sh_54 _) rfl (ct_X6_stretch l C.2.2.2.2.2.2.2.2 h2) (cwV 2 C.2.2.2.2.1 gL_law_X6_stretch rfl rfl rfl (by decide +kernel) ⟨Nat.le_of_ble_eq_true rfl, Nat.le_of_ble_eq_true rfl⟩) rfl rfl (Nat.le_of_ble_eq_true rfl) dL_law_592 ?_
  exact lq_cmp C dL_law_595 (by decide) (kk μ2 I2)
theorem lc_ahead (C : pw_F p s m #[Value.ref b] meth c cL_law 4 RL ret wsL_law G) (X : va_X b L xs s s.heap) (hbl : b < s.heap.size) (hbA : ¬ gA G b) (hL : L ≤ 3072) {i : Nat} (hi : i + 6 ≤ L) {μ : pw_Mem} (I : Iv μ) (kk : ∀ μ', Iv μ' → lq_Go p l e s m b below meth c G 1263 (lq_lv G b i) [] μ') : lq_Go p l e s m b below meth c G 600 (lq_lv G b i) [] μ := by
  obtain ⟨r, μ1, μ2, h1, h2, I2⟩ := q_ahead I (xs (i + 1)) (xs (i + 2)) (xs (i + 3))
  refine lq_aload_n C dL_law_600 rfl 2 rfl ?_
  refine lq_arg C X hbl hbA hL (i := i) (j := 1) (by omega) (by decide) 3 0 rfl rfl dL_law_601 dL_law_602 dL_law_603 dL_law_604 dL_law_605 ?_
  refine lq_arg C X hbl hbA hL (i := i) (j := 2) (by omega) (by decide) 3 0 rfl rfl dL_law_606 dL_law_607 dL_law_608 dL_law_609 dL_law_610 ?_
  refine lq_arg C X hbl hbA hL (i := i) (j := 3) (by omega) (by decide) 3 0 rfl rfl dL_law_611 dL_law_612 dL_law_613 dL_law_614 dL_law_615 ?_
  refine lq_call (As := [.int (xs (i + 1)), .int (xs (i + 2)), .int (xs (i + 3))]) (rest := []) C (by decide) (pw_sh_0 _) rfl (ct_X5_ahead l C.2.2.2.2.2.2.2.2 h1) (cwV 3 C.2.2.2.2.1 gL_law_X5_ahead rfl rfl rfl (by decide +kernel) ⟨Nat.le_of_ble_eq_true rfl, Nat.le_of_ble_eq_true rfl⟩) rfl rfl (Nat.le_of_ble_eq_true rfl) dL_law_616 ?_
  refine lq_aload_n C dL_law_619 rfl 1 rfl ?_
  refine lq_arg C X hbl hbA hL (i := i) (j := 1) (by omega) (by decide) 3 0 rfl rfl dL_law_620 dL_law_621 dL_law_622 dL_law_623 dL_law_624 ?_
  refine lq_arg C X hbl hbA hL (i := i) (j := 2) (by omega) (by decide) 3 0 rfl rfl dL_law_625 dL_law_626 dL_law_627 dL_law_628 dL_law_629 ?_
  refine lq_arg C X hbl hbA hL (i := i) (j := 3) (by omega) (by decide) 3 0 rfl rfl dL_law_630 dL_law_631 dL_law_632 dL_law_633 dL_law_634 ?_
  refine lq_call (As := [.int (xs (i + 1)), .int (xs (i + 2)), .int (xs (i + 3))]) (rest := [.int r]) C (by decide) (pw_sh_54 _) rfl (ct_X6_ahead l C.2.2.2.2.2.2.2.2 h2) (cwV 3 C.2.2.2.2.1 gL_law_X6_ahead rfl rfl rfl (by decide +kernel) ⟨Nat.le_of_ble_eq_true rfl, Nat.le_of_ble_eq_true rfl⟩) rfl rfl (Nat.le_of_ble_eq_true rfl) dL_law_635 ?_
  exact lq_cmp C dL_law_638 (by decide) (kk μ2 I2)
theorem lc_heard (C : pw_F p s m #[Value.ref b] meth c cL_law 4 RL ret wsL_law G) (X : va_X b L xs s s.heap) (hbl : b < s.heap.size) (hbA : ¬ gA G b) (hL : L ≤ 3072) {i : Nat} (hi : i + 6 ≤ L) {μ : pw_Mem} (I : Iv μ) (kk : ∀ μ', Iv μ' → lq_Go p l e s m b below meth c G 1263 (lq_lv G b i) [] μ') : lq_Go p l e s m b below meth c G 643 (lq_lv G b i) [] μ := by
  obtain ⟨r, μ1, μ2, h1, h2, I2⟩ := q_heard I (xs (i + 1)) (xs (i + 2))
  refine lq_aload_n C dL_law_643 rfl 2 rfl ?_
  refine lq_arg C X hbl hbA hL (i := i) (j := 1) (by omega) (by decide) 3 0 rfl rfl dL_law_644 dL_law_645 dL_law_646 dL_law_647 dL_law_648 ?_
  refine lq_arg C X hbl hbA hL (i := i) (j := 2) (by omega) (by decide) 3 0 rfl rfl dL_law_649 dL_law_650 dL_law_651 dL_law_652 dL_law_653 ?_
  refine lq_call (As := [.int (xs (i + 1)), .int (xs (i + 2))]) (rest := []) C (by decide) (pw_sh_0 _) rfl (ct_X5_heard l C.2.2.2.2.2.2.2.2 h1) (cwV 2 C.2.2.2.2.1 gL_law_X5_heard rfl rfl rfl (by decide +kernel) ⟨Nat.le_of_ble_eq_true rfl, Nat.le_of_ble_eq_true rfl⟩) rfl rfl (Nat.le_of_ble_eq_true rfl) dL_law_654 ?_
  refine lq_aload_n C dL_law_657 rfl 1 rfl ?_
  refine lq_arg C X hbl hbA hL (i := i) (j := 1) (by omega) (by decide) 3 0 rfl rfl dL_law_658 dL_law_659 dL_law_660 dL_law_661 dL_law_662 ?_
  refine lq_arg C X hbl hbA hL (i := i) (j := 2) (by omega) (by decide) 3 0 rfl rfl dL_law_663 dL_law_664 dL_law_665 dL_law_666 dL_law_667 ?_
  refine lq_call (As := [.int (xs (i + 1)), .int (xs (i + 2))]) (rest := [.int r]) C (by decide) (pw_sh_54 _) rfl (ct_X6_heard l C.2.2.2.2.2.2.2.2 h2) (cwV 2 C.2.2.2.2.1 gL_law_X6_heard rfl rfl rfl (by decide +kernel) ⟨Nat.le_of_ble_eq_true rfl, Nat.le_of_ble_eq_true rfl⟩) rfl rfl (Nat.le_of_ble_eq_true rfl) dL_law_668 ?_
  exact lq_cmp C dL_law_671 (by decide) (kk μ2 I2)
theorem lc_whole (C : pw_F p s m #[Value.ref b] meth c cL_law 4 RL ret wsL_law G) (X : va_X b L xs s s.heap) (hbl : b < s.heap.size) (hbA : ¬ gA G b) (hL : L ≤ 3072) {i : Nat} (hi : i + 6 ≤ L) {μ : pw_Mem} (I : Iv μ) (kk : ∀ μ', Iv μ' → lq_Go p l e s m b below meth c G 1263 (lq_lv G b i) [] μ') : lq_Go p l e s m b below meth c G 676 (lq_lv G b i) [] μ := by
  obtain ⟨r, μ1, μ2, h1, h2, I2⟩ := q_whole I (xs (i + 1))
  refine lq_aload_n C dL_law_676 rfl 2 rfl ?_
  refine lq_arg C X hbl hbA hL (i := i) (j := 1) (by omega) (by decide) 3 0 rfl rfl dL_law_677 dL_law_678 dL_law_679 dL_law_680 dL_law_681 ?_
  refine lq_call (As := [.int (xs (i + 1))]) (rest := []) C (by decide) (pw_sh_0 _) rfl (ct_X5_whole l C.2.2.2.2.2.2.2.2 h1) (cwV 1 C.2.2.2.2.1 gL_law_X5_whole rfl rfl rfl (by decide +kernel) ⟨Nat.le_of_ble_eq_true rfl, Nat.le_of_ble_eq_true rfl⟩) rfl rfl (Nat.le_of_ble_eq_true rfl) dL_law_682 ?_
  refine lq_aload_n C dL_law_685 rfl 1 rfl ?_
  refine lq_arg C X hbl hbA hL (i := i) (j := 1) (by omega) (by decide) 3 0 rfl rfl dL_law_686 dL_law_687 dL_law_688 dL_law_689 dL_law_690 ?_
  refine lq_call (As := [.int (xs (i + 1))]) (rest := [.int r]) C (by decide) (pw_sh_54 _) rfl (ct_X6_whole l C.2.2.2.2.2.2.2.2 h2) (cwV 1 C.2.2.2.2.1 gL_law_X6_whole rfl rfl rfl (by decide +kernel) ⟨Nat.le_of_ble_eq_true rfl, Nat.le_of_ble_eq_true rfl⟩) rfl rfl (Nat.le_of_ble_eq_true rfl) dL_law_691 ?_
  exact lq_cmp C dL_law_694 (by decide) (kk μ2 I2)
theorem lc_first (C : pw_F p s m #[Value.ref b] meth c cL_law 4 RL ret wsL_law G) (X : va_X b L xs s s.heap) (hbl : b < s.heap.size) (hbA : ¬ gA G b) (hL : L ≤ 3072) {i : Nat} (hi : i + 6 ≤ L) {μ : pw_Mem} (I : Iv μ) (kk : ∀ μ', Iv μ' → lq_Go p l e s m b below meth c G 1263 (lq_lv G b i) [] μ') : lq_Go p l e s m b below meth c G 699 (lq_lv G b i) [] μ := by
  obtain ⟨r, μ1, μ2, h1, h2, I2⟩ := q_first I (xs (i + 1))
  refine lq_aload_n C dL_law_699 rfl 2 rfl ?_
  refine lq_arg C X hbl hbA hL (i := i) (j := 1) (by omega) (by decide) 3 0 rfl rfl dL_law_700 dL_law_701 dL_law_702 dL_law_703 dL_law_704 ?_
  refine lq_call (As := [.int (xs (i + 1))]) (rest := []) C (by decide) (pw_sh_0 _) rfl (ct_X5_first l C.2.2.2.2.2.2.2.2 h1) (cwV 1 C.2.2.2.2.1 gL_law_X5_first rfl rfl rfl (by decide +kernel) ⟨Nat.le_of_ble_eq_true rfl, Nat.le_of_ble_eq_true rfl⟩) rfl rfl (Nat.le_of_ble_eq_true rfl) dL_law_705 ?_
  refine lq_aload_n C dL_law_708 rfl 1 rfl ?_
  refine lq_arg C X hbl hbA hL (i := i) (j := 1) (by omega) (by decide) 3 0 rfl rfl dL_law_709 dL_law_710 dL_law_711 dL_law_712 dL_law_713 ?_
  refine lq_call (As := [.int (xs (i + 1))]) (rest := [.int r]) C (by decide) (pw_sh_54 _) rfl (ct_X6_first l C.2.2.2.2.2.2.2.2 h2) (cwV 1 C.2.2.2.2.1 gL_law_X6_first rfl rfl rfl (by decide +kernel) ⟨Nat.le_of_ble_eq_true rfl, Nat.le_of_ble_eq_true rfl⟩) rfl rfl (Nat.le_of_ble_eq_true rfl) dL_law_714 ?_
  exact lq_cmp C dL_law_717 (by decide) (kk μ2 I2)
theorem lc_left (C : pw_F p s m #[Value.ref b] meth c cL_law 4 RL ret wsL_law G) (X : va_X b L xs s s.heap) (hbl : b < s.heap.size) (hbA : ¬ gA G b) (hL : L ≤ 3072) {i : Nat} (hi : i + 6 ≤ L) {μ : pw_Mem} (I : Iv μ) (kk : ∀ μ', Iv μ' → lq_Go p l e s m b below meth c G 1263 (lq_lv G b i) [] μ') : lq_Go p l e s m b below meth c G 722 (lq_lv G b i) [] μ := by
  obtain ⟨r, μ1, μ2, h1, h2, I2⟩ := q_left I (xs (i + 1))
  refine lq_aload_n C dL_law_722 rfl 2 rfl ?_
  refine lq_arg C X hbl hbA hL (i := i) (j := 1) (by omega) (by decide) 3 0 rfl rfl dL_law_723 dL_law_724 dL_law_725 dL_law_726 dL_law_727 ?_
  refine lq_call (As := [.int (xs (i + 1))]) (rest := []) C (by decide) (pw_sh_0 _) rfl (ct_X5_left l C.2.2.2.2.2.2.2.2 h1) (cwV 1 C.2.2.2.2.1 gL_law_X5_left rfl rfl rfl (by decide +kernel) ⟨Nat.le_of_ble_eq_true rfl, Nat.le_of_ble_eq_true rfl⟩) rfl rfl (Nat.le_of_ble_eq_true rfl) dL_law_728 ?_
  refine lq_aload_n C dL_law_731 rfl 1 rfl ?_
  refine lq_arg C X hbl hbA hL (i := i) (j := 1) (by omega) (by decide) 3 0 rfl rfl dL_law_732 dL_law_733 dL_law_734 dL_law_735 dL_law_736 ?_
  refine lq_call (As := [.int (xs (i + 1))]) (rest := [.int r]) C (by decide) (pw_sh_54 _) rfl (ct_X6_left l C.2.2.2.2.2.2.2.2 h2) (cwV 1 C.2.2.2.2.1 gL_law_X6_left rfl rfl rfl (by decide +kernel) ⟨Nat.le_of_ble_eq_true rfl, Nat.le_of_ble_eq_true rfl⟩) rfl rfl (Nat.le_of_ble_eq_true rfl) dL_law_737 ?_
  exact lq_cmp C dL_law_740 (by decide) (kk μ2 I2)
theorem lc_meet (C : pw_F p s m #[Value.ref b] meth c cL_law 4 RL ret wsL_law G) (X : va_X b L xs s s.heap) (hbl : b < s.heap.size) (hbA : ¬ gA G b) (hL : L ≤ 3072) {i : Nat} (hi : i + 6 ≤ L) {μ : pw_Mem} (I : Iv μ) (kk : ∀ μ', Iv μ' → lq_Go p l e s m b below meth c G 1263 (lq_lv G b i) [] μ') : lq_Go p l e s m b below meth c G 745 (lq_lv G b i) [] μ := by
  obtain ⟨r, μ1, μ2, h1, h2, I2⟩ := q_meet I (xs (i + 1)) (xs (i + 2))
  refine lq_aload_n C dL_law_745 rfl 2 rfl ?_
  refine lq_arg C X hbl hbA hL (i := i) (j := 1) (by omega) (by decide) 3 0 rfl rfl dL_law_746 dL_law_747 dL_law_748 dL_law_749 dL_law_750 ?_
  refine lq_arg C X hbl hbA hL (i := i) (j := 2) (by omega) (by decide) 3 0 rfl rfl dL_law_751 dL_law_752 dL_law_753 dL_law_754 dL_law_755 ?_
  refine lq_call (As := [.int (xs (i + 1)), .int (xs (i + 2))]) (rest := []) C (by decide) (pw_sh_0 _) rfl (ct_X5_meet l C.2.2.2.2.2.2.2.2 h1) (cwV 2 C.2.2.2.2.1 gL_law_X5_meet rfl rfl rfl (by decide +kernel) ⟨Nat.le_of_ble_eq_true rfl, Nat.le_of_ble_eq_true rfl⟩) rfl rfl (Nat.le_of_ble_eq_true rfl) dL_law_756 ?_
  refine lq_aload_n C dL_law_759 rfl 1 rfl ?_
  refine lq_arg C X hbl hbA hL (i := i) (j := 1) (by omega) (by decide) 3 0 rfl rfl dL_law_760 dL_law_761 dL_law_762 dL_law_763 dL_law_764 ?_
  refine lq_arg C X hbl hbA hL (i := i) (j := 2) (by omega) (by decide) 3 0 rfl rfl dL_law_765 dL_law_766 dL_law_767 dL_law_768 dL_law_769 ?_
  refine lq_call (As := [.int (xs (i + 1)), .int (xs (i + 2))]) (rest := [.int r]) C (by decide) (pw_sh_54 _) rfl (ct_X6_meet l C.2.2.2.2.2.2.2.2 h2) (cwV 2 C.2.2.2.2.1 gL_law_X6_meet rfl rfl rfl (by decide +kernel) ⟨Nat.le_of_ble_eq_true rfl, Nat.le_of_ble_eq_true rfl⟩) rfl rfl (Nat.le_of_ble_eq_true rfl) dL_law_770 ?_
  exact lq_cmp C dL_law_773 (by decide) (kk μ2 I2)
theorem lc_round (C : pw_F p s m #[Value.ref b] meth c cL_law 4 RL ret wsL_law G) (X : va_X b L xs s s.heap) (hbl : b < s.heap.size) (hbA : ¬ gA G b) (hL : L ≤ 3072) {i : Nat} (hi : i + 6 ≤ L) {μ : pw_Mem} (I : Iv μ) (kk : ∀ μ', Iv μ' → lq_Go p l e s m b below meth c G 1263 (lq_lv G b i) [] μ') : lq_Go p l e s m b below meth c G 778 (lq_lv G b i) [] μ := by
  obtain ⟨r, μ1, μ2, h1, h2, I2⟩ := q_round I 
  refine lq_aload_n C dL_law_778 rfl 2 rfl ?_
  refine lq_call (As := []) (rest := []) C (by decide) (pw_sh_0 _) rfl (ct_X5_round l C.2.2.2.2.2.2.2.2 h1) (cwV 0 C.2.2.2.2.1 gL_law_X5_round rfl rfl rfl (by decide +kernel) ⟨Nat.le_of_ble_eq_true rfl, Nat.le_of_ble_eq_true rfl⟩) rfl rfl (Nat.le_of_ble_eq_true rfl) dL_law_779 ?_
  refine lq_aload_n C dL_law_782 rfl 1 rfl ?_
  refine lq_call (As := []) (rest := [.int r]) C (by decide) (pw_sh_54 _) rfl (ct_X6_round l C.2.2.2.2.2.2.2.2 h2) (cwV 0 C.2.2.2.2.1 gL_law_X6_round rfl rfl rfl (by decide +kernel) ⟨Nat.le_of_ble_eq_true rfl, Nat.le_of_ble_eq_true rfl⟩) rfl rfl (Nat.le_of_ble_eq_true rfl) dL_law_783 ?_
  exact lq_cmp C dL_law_786 (by decide) (kk μ2 I2)
theorem lc_best (C : pw_F p s m #[Value.ref b] meth c cL_law 4 RL ret wsL_law G) (X : va_X b L xs s s.heap) (hbl : b < s.heap.size) (hbA : ¬ gA G b) (hL : L ≤ 3072) {i : Nat} (hi : i + 6 ≤ L) {μ : pw_Mem} (I : Iv μ) (kk : ∀ μ', Iv μ' → lq_Go p l e s m b below meth c G 1263 (lq_lv G b i) [] μ') : lq_Go p l e s m b below meth c G 791 (lq_lv G b i) [] μ := by
  obtain ⟨r, μ1, μ2, h1, h2, I2⟩ := q_best I (xs (i + 1)) (xs (i + 2)) (xs (i + 3)) (xs (i + 4))
  refine lq_aload_n C dL_law_791 rfl 2 rfl ?_
  refine lq_arg C X hbl hbA hL (i := i) (j := 1) (by omega) (by decide) 3 0 rfl rfl dL_law_792 dL_law_793 dL_law_794 dL_law_795 dL_law_796 ?_
  refine lq_arg C X hbl hbA hL (i := i) (j := 2) (by omega) (by decide) 3 0 rfl rfl dL_law_797 dL_law_798 dL_law_799 dL_law_800 dL_law_801 ?_
  refine lq_arg C X hbl hbA hL (i := i) (j := 3) (by omega) (by decide) 3 0 rfl rfl dL_law_802 dL_law_803 dL_law_804 dL_law_805 dL_law_806 ?_
  refine lq_arg C X hbl hbA hL (i := i) (j := 4) (by omega) (by decide) 3 0 rfl rfl dL_law_807 dL_law_808 dL_law_809 dL_law_810 dL_law_811 ?_
  refine lq_call (As := [.int (xs (i + 1)), .int (xs (i + 2)), .int (xs (i + 3)), .int (xs (i + 4))]) (rest := []) C (by decide) (pw_sh_0 _) rfl (ct_X5_best l C.2.2.2.2.2.2.2.2 h1) (cwV 4 C.2.2.2.2.1 gL_law_X5_best rfl rfl rfl (by decide +kernel) ⟨Nat.le_of_ble_eq_true rfl, Nat.le_of_ble_eq_true rfl⟩) rfl rfl (Nat.le_of_ble_eq_true rfl) dL_law_812 ?_
  refine lq_aload_n C dL_law_815 rfl 1 rfl ?_
  refine lq_arg C X hbl hbA hL (i := i) (j := 1) (by omega) (by decide) 3 0 rfl rfl dL_law_816 dL_law_817 dL_law_818 dL_law_819 dL_law_820 ?_
  refine lq_arg C X hbl hbA hL (i := i) (j := 2) (by omega) (by decide) 3 0 rfl rfl dL_law_821 dL_law_822 dL_law_823 dL_law_824 dL_law_825 ?_
  refine lq_arg C X hbl hbA hL (i := i) (j := 3) (by omega) (by decide) 3 0 rfl rfl dL_law_826 dL_law_827 dL_law_828 dL_law_829 dL_law_830 ?_
  refine lq_arg C X hbl hbA hL (i := i) (j := 4) (by omega) (by decide) 3 0 rfl rfl dL_law_831 dL_law_832 dL_law_833 dL_law_834 dL_law_835 ?_
  refine lq_call (As := [.int (xs (i + 1)), .int (xs (i + 2)), .int (xs (i + 3)), .int (xs (i + 4))]) (rest := [.int r]) C (by decide) (pw_sh_54 _) rfl (ct_X6_best l C.2.2.2.2.2.2.2.2 h2) (cwV 4 C.2.2.2.2.1 gL_law_X6_best rfl rfl rfl (by decide +kernel) ⟨Nat.le_of_ble_eq_true rfl, Nat.le_of_ble_eq_true rfl⟩) rfl rfl (Nat.le_of_ble_eq_true rfl) dL_law_836 ?_
  exact lq_cmp C dL_law_839 (by decide) (kk μ2 I2)
theorem lc_piece (C : pw_F p s m #[Value.ref b] meth c cL_law 4 RL ret wsL_law G) (X : va_X b L xs s s.heap) (hbl : b < s.heap.size) (hbA : ¬ gA G b) (hL : L ≤ 3072) {i : Nat} (hi : i + 6 ≤ L) {μ : pw_Mem} (I : Iv μ) (kk : ∀ μ', Iv μ' → lq_Go p l e s m b below meth c G 1263 (lq_lv G b i) [] μ') : lq_Go p l e s m b below meth c G 844 (lq_lv G b i) [] μ := by
  obtain ⟨r, μ1, μ2, h1, h2, I2⟩ := q_piece I (xs (i + 1))
  refine lq_aload_n C dL_law_844 rfl 2 rfl ?_
  refine lq_arg C X hbl hbA hL (i := i) (j := 1) (by omega) (by decide) 3 0 rfl rfl dL_law_845 dL_law_846 dL_law_847 dL_law_848 dL_law_849 ?_
  refine lq_call (As := [.int (xs (i + 1))]) (rest := []) C (by decide) (pw_sh_0 _) rfl (ct_X5_piece l C.2.2.2.2.2.2.2.2 h1) (cwV 1 C.2.2.2.2.1 gL_law_X5_piece rfl rfl rfl (by decide +kernel) ⟨Nat.le_of_ble_eq_true rfl, Nat.le_of_ble_eq_true rfl⟩) rfl rfl (Nat.le_of_ble_eq_true rfl) dL_law_850 ?_
  refine lq_aload_n C dL_law_853 rfl 1 rfl ?_
  refine lq_arg C X hbl hbA hL (i := i) (j := 1) (by omega) (by decide) 3 0 rfl rfl dL_law_854 dL_law_855 dL_law_856 dL_law_857 dL_law_858 ?_
  refine lq_call (As := [.int (xs (i + 1))]) (rest := [.int r]) C (by decide) (pw_sh_54 _) rfl (ct_X6_piece l C.2.2.2.2.2.2.2.2 h2) (cwV 1 C.2.2.2.2.1 gL_law_X6_piece rfl rfl rfl (by decide +kernel) ⟨Nat.le_of_ble_eq_true rfl, Nat.le_of_ble_eq_true rfl⟩) rfl rfl (Nat.le_of_ble_eq_true rfl) dL_law_859 ?_
  exact lq_cmp C dL_law_862 (by decide) (kk μ2 I2)
theorem lc_walk (C : pw_F p s m #[Value.ref b] meth c cL_law 4 RL ret wsL_law G) (X : va_X b L xs s s.heap) (hbl : b < s.heap.size) (hbA : ¬ gA G b) (hL : L ≤ 3072) {i : Nat} (hi : i + 6 ≤ L) {μ : pw_Mem} (I : Iv μ) (kk : ∀ μ', Iv μ' → lq_Go p l e s m b below meth c G 1263 (lq_lv G b i) [] μ') : lq_Go p l e s m b below meth c G 867 (lq_lv G b i) [] μ := by
  obtain ⟨r, μ1, μ2, h1, h2, I2⟩ := q_walk I (xs (i + 1)) (xs (i + 2)) (xs (i + 3))
  refine lq_aload_n C dL_law_867 rfl 2 rfl ?_
  refine lq_arg C X hbl hbA hL (i := i) (j := 1) (by omega) (by decide) 3 0 rfl rfl dL_law_868 dL_law_869 dL_law_870 dL_law_871 dL_law_872 ?_
  refine lq_arg C X hbl hbA hL (i := i) (j := 2) (by omega) (by decide) 3 0 rfl rfl dL_law_873 dL_law_874 dL_law_875 dL_law_876 dL_law_877 ?_
  refine lq_arg C X hbl hbA hL (i := i) (j := 3) (by omega) (by decide) 3 0 rfl rfl dL_law_878 dL_law_879 dL_law_880 dL_law_881 dL_law_882 ?_
  refine lq_call (As := [.int (xs (i + 1)), .int (xs (i + 2)), .int (xs (i + 3))]) (rest := []) C (by decide) (pw_sh_0 _) rfl (ct_X5_walk l C.2.2.2.2.2.2.2.2 h1) (cwV 3 C.2.2.2.2.1 gL_law_X5_walk rfl rfl rfl (by decide +kernel) ⟨Nat.le_of_ble_eq_true rfl, Nat.le_of_ble_eq_true rfl⟩) rfl rfl (Nat.le_of_ble_eq_true rfl) dL_law_883 ?_
  refine lq_aload_n C dL_law_886 rfl 1 rfl ?_
  refine lq_arg C X hbl hbA hL (i := i) (j := 1) (by omega) (by decide) 3 0 rfl rfl dL_law_887 dL_law_888 dL_law_889 dL_law_890 dL_law_891 ?_
  refine lq_arg C X hbl hbA hL (i := i) (j := 2) (by omega) (by decide) 3 0 rfl rfl dL_law_892 dL_law_893 dL_law_894 dL_law_895 dL_law_896 ?_
  refine lq_arg C X hbl hbA hL (i := i) (j := 3) (by omega) (by decide) 3 0 rfl rfl dL_law_897 dL_law_898 dL_law_899 dL_law_900 dL_law_901 ?_
  refine lq_call (As := [.int (xs (i + 1)), .int (xs (i + 2)), .int (xs (i + 3))]) (rest := [.int r]) C (by decide) (pw_sh_54 _) rfl (ct_X6_walk l C.2.2.2.2.2.2.2.2 h2) (cwV 3 C.2.2.2.2.1 gL_law_X6_walk rfl rfl rfl (by decide +kernel) ⟨Nat.le_of_ble_eq_true rfl, Nat.le_of_ble_eq_true rfl⟩) rfl rfl (Nat.le_of_ble_eq_true rfl) dL_law_902 ?_
  exact lq_cmp C dL_law_905 (by decide) (kk μ2 I2)
end LC
