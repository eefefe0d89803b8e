/-! the law's cases, 2 -/
section LC
variable {p : Program} {l : Launch} {e : Env} {s : State} {m : MethodId} {b L : Nat} {below : List Frame} {meth : Method} {c : Code} {G : pw_G} {xs : Nat → Int32}
theorem lc_fits (C : pw_F p s m #[Value.ref b] meth c cL_law 4 RL ret wsL_law G) (X : va_X b L xs s s.heap) (hbl : b < s.heap.size) (hbA : ¬ gA G b) (hL : L ≤ 3072) {i : Nat} (hi : i + 6 ≤ L) {μ : pw_Mem} (I : Iv μ) (kk : ∀ μ', Iv μ' → lq_Go p l e s m b below meth c G 1263 (lq_lv G b i) [] μ') : lq_Go p l e s m b below meth c G 910 (lq_lv G b i) [] μ := by
  obtain ⟨r, μ1, μ2, h1, h2, I2⟩ := q_fits I (xs (i + 1)) (xs (i + 2)) (xs (i + 3)) (xs (i + 4)) (xs (i + 5))
  refine lq_aload_n C dL_law_910 rfl 2 rfl ?_
  refine lq_arg C X hbl hbA hL (i := i) (j := 1) (by omega) (by decide) 3 0 rfl rfl dL_law_911 dL_law_912 dL_law_913 dL_law_914 dL_law_915 ?_
  refine lq_arg C X hbl hbA hL (i := i) (j := 2) (by omega) (by decide) 3 0 rfl rfl dL_law_916 dL_law_917 dL_law_918 dL_law_919 dL_law_920 ?_
  refine lq_arg C X hbl hbA hL (i := i) (j := 3) (by omega) (by decide) 3 0 rfl rfl dL_law_921 dL_law_922 dL_law_923 dL_law_924 dL_law_925 ?_
  refine lq_arg C X hbl hbA hL (i := i) (j := 4) (by omega) (by decide) 3 0 rfl rfl dL_law_926 dL_law_927 dL_law_928 dL_law_929 dL_law_930 ?_
  refine lq_arg C X hbl hbA hL (i := i) (j := 5) (by omega) (by decide) 3 0 rfl rfl dL_law_931 dL_law_932 dL_law_933 dL_law_934 dL_law_935 ?_
  refine lq_call (As := [.int (xs (i + 1)), .int (xs (i + 2)), .int (xs (i + 3)), .int (xs (i + 4)), .int (xs (i + 5))]) (rest := []) C (by decide) (pw_sh_0 _) rfl (ct_X5_fits l C.2.2.2.2.2.2.2.2 h1) (cwV 5 C.2.2.2.2.1 gL_law_X5_fits rfl rfl rfl (by decide +kernel) ⟨Nat.le_of_ble_eq_true rfl, Nat.le_of_ble_eq_true rfl⟩) rfl rfl (Nat.le_of_ble_eq_true rfl) dL_law_936 ?_
  refine lq_aload_n C dL_law_939 rfl 1 rfl ?_
  refine lq_arg C X hbl hbA hL (i := i) (j := 1) (by omega) (by decide) 3 0 rfl rfl dL_law_940 dL_law_941 dL_law_942 dL_law_943 dL_law_944 ?_
  refine lq_arg C X hbl hbA hL (i := i) (j := 2) (by omega) (by decide) 3 0 rfl rfl dL_law_945 dL_law_946 dL_law_947 dL_law_948 dL_law_949 ?_
  refine lq_arg C X hbl hbA hL (i := i) (j := 3) (by omega) (by decide) 3 0 rfl rfl dL_law_950 dL_law_951 dL_law_952 dL_law_953 dL_law_954 ?_
  refine lq_arg C X hbl hbA hL (i := i) (j := 4) (by omega) (by decide) 3 0 rfl rfl dL_law_955 dL_law_956 dL_law_957 dL_law_958 dL_law_959 ?_
  refine lq_arg C X hbl hbA hL (i := i) (j := 5) (by omega) (by decide) 3 0 rfl rfl dL_law_960 dL_law_961 dL_law_962 dL_law_963 dL_law_964 ?_
  refine lq_call (As := [.int (xs (i + 1)), .int (xs (i + 2)), .int (xs (i + 3)), .int (xs (i + 4)), .int (xs (i + 5))]) (rest := [.int r]) C (by decide) (pw_sh_54 _) rfl (ct_X6_fits l C.2.2.2.2.2.2.2.2 h2) (cwV 5 C.2.2.2.2.1 gL_law_X6_fits rfl rfl rfl (by decide +kernel) ⟨Nat.le_of_ble_eq_true rfl, Nat.le_of_ble_eq_true rfl⟩) rfl rfl (Nat.le_of_ble_eq_true rfl) dL_law_965 ?_
  exact lq_cmp C dL_law_968 (by decide) (kk μ2 I2)
theorem lc_axles (C : pw_F p s m #[Value.ref b] meth c cL_law 4 RL ret wsL_law G) (X : va_X b L xs s s.heap) (hbl : b < s.heap.size) (hbA : ¬ gA G b) (hL : L ≤ 3072) {i : Nat} (hi : i + 6 ≤ L) {μ : pw_Mem} (I : Iv μ) (kk : ∀ μ', Iv μ' → lq_Go p l e s m b below meth c G 1263 (lq_lv G b i) [] μ') : lq_Go p l e s m b below meth c G 973 (lq_lv G b i) [] μ := by
  obtain ⟨r, μ1, μ2, h1, h2, I2⟩ := q_axles I (xs (i + 1)) (xs (i + 2)) (xs (i + 3)) (xs (i + 4))
  refine lq_aload_n C dL_law_973 rfl 2 rfl ?_
  refine lq_arg C X hbl hbA hL (i := i) (j := 1) (by omega) (by decide) 3 0 rfl rfl dL_law_974 dL_law_975 dL_law_976 dL_law_977 dL_law_978 ?_
  refine lq_arg C X hbl hbA hL (i := i) (j := 2) (by omega) (by decide) 3 0 rfl rfl dL_law_979 dL_law_980 dL_law_981 dL_law_982 dL_law_983 ?_
  refine lq_arg C X hbl hbA hL (i := i) (j := 3) (by omega) (by decide) 3 0 rfl rfl dL_law_984 dL_law_985 dL_law_986 dL_law_987 dL_law_988 ?_
  refine lq_arg C X hbl hbA hL (i := i) (j := 4) (by omega) (by decide) 3 0 rfl rfl dL_law_989 dL_law_990 dL_law_991 dL_law_992 dL_law_993 ?_
  refine lq_call (As := [.int (xs (i + 1)), .int (xs (i + 2)), .int (xs (i + 3)), .int (xs (i + 4))]) (rest := []) C (by decide) (pw_sh_0 _) rfl (ct_X5_axles l C.2.2.2.2.2.2.2.2 h1) (cwV 4 C.2.2.2.2.1 gL_law_X5_axles rfl rfl rfl (by decide +kernel) ⟨Nat.le_of_ble_eq_true rfl, Nat.le_of_ble_eq_true rfl⟩) rfl rfl (Nat.le_of_ble_eq_true rfl) dL_law_994 ?_
  refine lq_aload_n C dL_law_997 rfl 1 rfl ?_
  refine lq_arg C X hbl hbA hL (i := i) (j := 1) (by omega) (by decide) 3 0 rfl rfl dL_law_998 dL_law_999 dL_law_1000 dL_law_1001 dL_law_1002 ?_
  refine lq_arg C X hbl hbA hL (i := i) (j := 2) (by omega) (by decide) 3 0 rfl rfl dL_law_1003 dL_law_1004 dL_law_1005 dL_law_1006 dL_law_1007 ?_
  refine lq_arg C X hbl hbA hL (i := i) (j := 3) (by omega) (by decide) 3 0 rfl rfl dL_law_1008 dL_law_1009 dL_law_1010 dL_law_1011 dL_law_1012 ?_
  refine lq_arg C X hbl hbA hL (i := i) (j := 4) (by omega) (by decide) 3 0 rfl rfl dL_law_1013 dL_law_1014 dL_law_1015 dL_law_1016 dL_law_1017 ?_
  refine lq_call (As := [.int (xs (i + 1)), .int (xs (i + 2)), .int (xs (i + 3)), .int (xs (i + 4))]) (rest := [.int r]) C (by decide) (pw_sh_54 _) rfl (ct_X6_axles l C.2.2.2.2.2.2.2.2 h2) (cwV 4 C.2.2.2.2.1 gL_law_X6_axles rfl rfl rfl (by decide +kernel) ⟨Nat.le_of_ble_eq_true rfl, Nat.le_of_ble_eq_true rfl⟩) rfl rfl (Nat.le_of_ble_eq_true rfl) dL_law_1018 ?_
  exact lq_cmp C dL_law_1021 (by decide) (kk μ2 I2)
theorem lc_drawn (C : pw_F p s m #[Value.ref b] meth c cL_law 4 RL ret wsL_law G) (X : va_X b L xs s s.heap) (hbl : b < s.heap.size) (hbA : ¬ gA G b) (hL : L ≤ 3072) {i : Nat} (hi : i + 6 ≤ L) {μ : pw_Mem} (I : Iv μ) (kk : ∀ μ', Iv μ' → lq_Go p l e s m b below meth c G 1263 (lq_lv G b i) [] μ') : lq_Go p l e s m b below meth c G 1026 (lq_lv G b i) [] μ := by
  obtain ⟨r, μ1, μ2, h1, h2, I2⟩ := q_drawn I (xs (i + 1)) (xs (i + 2)) (xs (i + 3))
  refine lq_aload_n C dL_law_1026 rfl 2 rfl ?_
  refine lq_arg C X hbl hbA hL (i := i) (j := 1) (by omega) (by decide) 3 0 rfl rfl dL_law_1027 dL_law_1028 dL_law_1029 dL_law_1030 dL_law_1031 ?_
  refine lq_arg C X hbl hbA hL (i := i) (j := 2) (by omega) (by decide) 3 0 rfl rfl dL_law_1032 dL_law_1033 dL_law_1034 dL_law_1035 dL_law_1036 ?_
  refine lq_arg C X hbl hbA hL (i := i) (j := 3) (by omega) (by decide) 3 0 rfl rfl dL_law_1037 dL_law_1038 dL_law_1039 dL_law_1040 dL_law_1041 ?_
  refine lq_call (As := [.int (xs (i + 1)), .int (xs (i + 2)), .int (xs (i + 3))]) (rest := []) C (by decide) (pw_sh_0 _) rfl (ct_X5_drawn l C.2.2.2.2.2.2.2.2 h1) (cwV 3 C.2.2.2.2.1 gL_law_X5_drawn rfl rfl rfl (by decide +kernel) ⟨Nat.le_of_ble_eq_true rfl, Nat.le_of_ble_eq_true rfl⟩) rfl rfl (Nat.le_of_ble_eq_true rfl) dL_law_1042 ?_
  refine lq_aload_n C dL_law_1045 rfl 1 rfl ?_
  refine lq_arg C X hbl hbA hL (i := i) (j := 1) (by omega) (by decide) 3 0 rfl rfl dL_law_1046 dL_law_1047 dL_law_1048 dL_law_1049 dL_law_1050 ?_
  refine lq_arg C X hbl hbA hL (i := i) (j := 2) (by omega) (by decide) 3 0 rfl rfl dL_law_1051 dL_law_1052 dL_law_1053 dL_law_1054 dL_law_1055 ?_
  refine lq_arg C X hbl hbA hL (i := i) (j := 3) (by omega) (by decide) 3 0 rfl rfl dL_law_1056 dL_law_1057 dL_law_1058 dL_law_1059 dL_law_1060 ?_
  refine lq_call (As := [.int (xs (i + 1)), .int (xs (i + 2)), .int (xs (i + 3))]) (rest := [.int r]) C (by decide) (pw_sh_54 _) rfl (ct_X6_drawn l C.2.2.2.2.2.2.2.2 h2) (cwV 3 C.2.2.2.2.1 gL_law_X6_drawn rfl rfl rfl (by decide +kernel) ⟨Nat.le_of_ble_eq_true rfl, Nat.le_of_ble_eq_true rfl⟩) rfl rfl (Nat.le_of_ble_eq_true rfl) dL_law_1061 ?_
  exact lq_cmp C dL_law_1064 (by decide) (kk μ2 I2)
theorem lc_image (C : pw_F p s m #[Value.ref b] meth c cL_law 4 RL ret wsL_law G) (X : va_X b L xs s s.heap) (hbl : b < s.heap.size) (hbA : ¬ gA G b) (hL : L ≤ 3072) {i : Nat} (hi : i + 6 ≤ L) {μ : pw_Mem} (I : Iv μ) (kk : ∀ μ', Iv μ' → lq_Go p l e s m b below meth c G 1263 (lq_lv G b i) [] μ') : lq_Go p l e s m b below meth c G 1069 (lq_lv G b i) [] μ := by
  obtain ⟨r, μ1, μ2, h1, h2, I2⟩ := q_image I (xs (i + 1))
  refine lq_aload_n C dL_law_1069 rfl 2 rfl ?_
  refine lq_arg C X hbl hbA hL (i := i) (j := 1) (by omega) (by decide) 3 0 rfl rfl dL_law_1070 dL_law_1071 dL_law_1072 dL_law_1073 dL_law_1074 ?_
  refine lq_call (As := [.int (xs (i + 1))]) (rest := []) C (by decide) (pw_sh_0 _) rfl (ct_X5_image l C.2.2.2.2.2.2.2.2 h1) (cwV 1 C.2.2.2.2.1 gL_law_X5_image rfl rfl rfl (by decide +kernel) ⟨Nat.le_of_ble_eq_true rfl, Nat.le_of_ble_eq_true rfl⟩) rfl rfl (Nat.le_of_ble_eq_true rfl) dL_law_1075 ?_
  refine lq_aload_n C dL_law_1078 rfl 1 rfl ?_
  refine lq_arg C X hbl hbA hL (i := i) (j := 1) (by omega) (by decide) 3 0 rfl rfl dL_law_1079 dL_law_1080 dL_law_1081 dL_law_1082 dL_law_1083 ?_
  refine lq_call (As := [.int (xs (i + 1))]) (rest := [.int r]) C (by decide) (pw_sh_54 _) rfl (ct_X6_image l C.2.2.2.2.2.2.2.2 h2) (cwV 1 C.2.2.2.2.1 gL_law_X6_image rfl rfl rfl (by decide +kernel) ⟨Nat.le_of_ble_eq_true rfl, Nat.le_of_ble_eq_true rfl⟩) rfl rfl (Nat.le_of_ble_eq_true rfl) dL_law_1084 ?_
  exact lq_cmp C dL_law_1087 (by decide) (kk μ2 I2)
theorem lc_restore (C : pw_F p s m #[Value.ref b] meth c cL_law 4 RL ret wsL_law G) (X : va_X b L xs s s.heap) (hbl : b < s.heap.size) (hbA : ¬ gA G b) (hL : L ≤ 3072) {i : Nat} (hi : i + 6 ≤ L) {μ : pw_Mem} (I : Iv μ) (kk : ∀ μ', Iv μ' → lq_Go p l e s m b below meth c G 1263 (lq_lv G b i) [] μ') : lq_Go p l e s m b below meth c G 1092 (lq_lv G b i) [] μ := by
  obtain ⟨r, μ1, μ2, h1, h2, I2⟩ := q_restore I (xs (i + 1))
  refine lq_aload_n C dL_law_1092 rfl 2 rfl ?_
  refine lq_arg C X hbl hbA hL (i := i) (j := 1) (by omega) (by decide) 3 0 rfl rfl dL_law_1093 dL_law_1094 dL_law_1095 dL_law_1096 dL_law_1097 ?_
  refine lq_call (As := [.int (xs (i + 1))]) (rest := []) C (by decide) (pw_sh_0 _) rfl (ct_X5_restore l C.2.2.2.2.2.2.2.2 h1) (cwV 1 C.2.2.2.2.1 gL_law_X5_restore rfl rfl rfl (by decide +kernel) ⟨Nat.le_of_ble_eq_true rfl, Nat.le_of_ble_eq_true rfl⟩) rfl rfl (Nat.le_of_ble_eq_true rfl) dL_law_1098 ?_
  refine lq_aload_n C dL_law_1101 rfl 1 rfl ?_
  refine lq_arg C X hbl hbA hL (i := i) (j := 1) (by omega) (by decide) 3 0 rfl rfl dL_law_1102 dL_law_1103 dL_law_1104 dL_law_1105 dL_law_1106 ?_
  refine lq_call (As := [.int (xs (i + 1))]) (rest := [.int r]) C (by decide) (pw_sh_54 _) rfl (ct_X6_restore l C.2.2.2.2.2.2.2.2 h2) (cwV 1 C.2.2.2.2.1 gL_law_X6_restore rfl rfl rfl (by decide +kernel) ⟨Nat.le_of_ble_eq_true rfl, Nat.le_of_ble_eq_true rfl⟩) rfl rfl (Nat.le_of_ble_eq_true rfl) dL_law_1107 ?_
  exact lq_cmp C dL_law_1110 (by decide) (kk μ2 I2)
theorem lc_kind (C : pw_F p s m #[Value.ref b] meth c cL_law 4 RL ret wsL_law G) (X : va_X b L xs s s.heap) (hbl : b < s.heap.size) (hbA : ¬ gA G b) (hL : L ≤ 3072) {i : Nat} (hi : i + 6 ≤ L) {μ : pw_Mem} (I : Iv μ) (kk : ∀ μ', Iv μ' → lq_Go p l e s m b below meth c G 1263 (lq_lv G b i) [] μ') : lq_Go p l e s m b below meth c G 1115 (lq_lv G b i) [] μ := by
  obtain ⟨r, μ1, μ2, h1, h2, I2⟩ := q_kind I (xs (i + 1))
  refine lq_aload_n C dL_law_1115 rfl 2 rfl ?_
  refine lq_arg C X hbl hbA hL (i := i) (j := 1) (by omega) (by decide) 3 0 rfl rfl dL_law_1116 dL_law_1117 dL_law_1118 dL_law_1119 dL_law_1120 ?_
  refine lq_call (As := [.int (xs (i + 1))]) (rest := []) C (by decide) (pw_sh_0 _) rfl (ct_X5_kind l C.2.2.2.2.2.2.2.2 h1) (cwV 1 C.2.2.2.2.1 gL_law_X5_kind rfl rfl rfl (by decide +kernel) ⟨Nat.le_of_ble_eq_true rfl, Nat.le_of_ble_eq_true rfl⟩) rfl rfl (Nat.le_of_ble_eq_true rfl) dL_law_1121 ?_
  refine lq_aload_n C dL_law_1124 rfl 1 rfl ?_
  refine lq_arg C X hbl hbA hL (i := i) (j := 1) (by omega) (by decide) 3 0 rfl rfl dL_law_1125 dL_law_1126 dL_law_1127 dL_law_1128 dL_law_1129 ?_
  refine lq_call (As := [.int (xs (i + 1))]) (rest := [.int r]) C (by decide) (pw_sh_54 _) rfl (ct_X6_kind l C.2.2.2.2.2.2.2.2 h2) (cwV 1 C.2.2.2.2.1 gL_law_X6_kind rfl rfl rfl (by decide +kernel) ⟨Nat.le_of_ble_eq_true rfl, Nat.le_of_ble_eq_true rfl⟩) rfl rfl (Nat.le_of_ble_eq_true rfl) dL_law_1130 ?_
  exact lq_cmp C dL_law_1133 (by decide) (kk μ2 I2)
theorem lc_as (C : pw_F p s m #[Value.ref b] meth c cL_law 4 RL ret wsL_law G) (X : va_X b L xs s s.heap) (hbl : b < s.heap.size) (hbA : ¬ gA G b) (hL : L ≤ 3072) {i : Nat} (hi : i + 6 ≤ L) {μ : pw_Mem} (I : Iv μ) (kk : ∀ μ', Iv μ' → lq_Go p l e s m b below meth c G 1263 (lq_lv G b i) [] μ') : lq_Go p l e s m b below meth c G 1138 (lq_lv G b i) [] μ := by
  obtain ⟨r, μ1, μ2, h1, h2, I2⟩ := q_as I (xs (i + 1)) (xs (i + 2))
  refine lq_aload_n C dL_law_1138 rfl 2 rfl ?_
  refine lq_arg C X hbl hbA hL (i := i) (j := 1) (by omega) (by decide) 3 0 rfl rfl dL_law_1139 dL_law_1140 dL_law_1141 dL_law_1142 dL_law_1143 ?_
  refine lq_arg C X hbl hbA hL (i := i) (j := 2) (by omega) (by decide) 3 0 rfl rfl dL_law_1144 dL_law_1145 dL_law_1146 dL_law_1147 dL_law_1148 ?_
  refine lq_call (As := [.int (xs (i + 1)), .int (xs (i + 2))]) (rest := []) C (by decide) (pw_sh_0 _) rfl (ct_X5_as l C.2.2.2.2.2.2.2.2 h1) (cwV 2 C.2.2.2.2.1 gL_law_X5_as rfl rfl rfl (by decide +kernel) ⟨Nat.le_of_ble_eq_true rfl, Nat.le_of_ble_eq_true rfl⟩) rfl rfl (Nat.le_of_ble_eq_true rfl) dL_law_1149 ?_
  refine lq_aload_n C dL_law_1152 rfl 1 rfl ?_
  refine lq_arg C X hbl hbA hL (i := i) (j := 1) (by omega) (by decide) 3 0 rfl rfl dL_law_1153 dL_law_1154 dL_law_1155 dL_law_1156 dL_law_1157 ?_
  refine lq_arg C X hbl hbA hL (i := i) (j := 2) (by omega) (by decide) 3 0 rfl rfl dL_law_1158 dL_law_1159 dL_law_1160 dL_law_1161 dL_law_1162 ?_
  refine lq_call (As := [.int (xs (i + 1)), .int (xs (i + 2))]) (rest := [.int r]) C (by decide) (pw_sh_54 _) rfl (ct_X6_as l C.2.2.2.2.2.2.2.2 h2) (cwV 2 C.2.2.2.2.1 gL_law_X6_as rfl rfl rfl (by decide +kernel) ⟨Nat.le_of_ble_eq_true rfl, Nat.le_of_ble_eq_true rfl⟩) rfl rfl (Nat.le_of_ble_eq_true rfl) dL_law_1163 ?_
  exact lq_cmp C dL_law_1166 (by decide) (kk μ2 I2)
theorem lc_ask (C : pw_F p s m #[Value.ref b] meth c cL_law 4 RL ret wsL_law G) (X : va_X b L xs s s.heap) (hbl : b < s.heap.size) (hbA : ¬ gA G b) (hL : L ≤ 3072) {i : Nat} (hi : i + 6 ≤ L) {μ : pw_Mem} (I : Iv μ) (kk : ∀ μ', Iv μ' → lq_Go p l e s m b below meth c G 1263 (lq_lv G b i) [] μ') : lq_Go p l e s m b below meth c G 1171 (lq_lv G b i) [] μ := by
  obtain ⟨r, μ1, μ2, h1, h2, I2⟩ := q_ask I (xs (i + 1)) (xs (i + 2))
  refine lq_aload_n C dL_law_1171 rfl 2 rfl ?_
  refine lq_arg C X hbl hbA hL (i := i) (j := 1) (by omega) (by decide) 3 0 rfl rfl dL_law_1172 dL_law_1173 dL_law_1174 dL_law_1175 dL_law_1176 ?_
  refine lq_arg C X hbl hbA hL (i := i) (j := 2) (by omega) (by decide) 3 0 rfl rfl dL_law_1177 dL_law_1178 dL_law_1179 dL_law_1180 dL_law_1181 ?_
  refine lq_call (As := [.int (xs (i + 1)), .int (xs (i + 2))]) (rest := []) C (by decide) (pw_sh_0 _) rfl (ct_X5_ask l C.2.2.2.2.2.2.2.2 h1) (cwV 2 C.2.2.2.2.1 gL_law_X5_ask rfl rfl rfl (by decide +kernel) ⟨Nat.le_of_ble_eq_true rfl, Nat.le_of_ble_eq_true rfl⟩) rfl rfl (Nat.le_of_ble_eq_true rfl) dL_law_1182 ?_
  refine lq_aload_n C dL_law_1185 rfl 1 rfl ?_
  refine lq_arg C X hbl hbA hL (i := i) (j := 1) (by omega) (by decide) 3 0 rfl rfl dL_law_1186 dL_law_1187 dL_law_1188 dL_law_1189 dL_law_1190 ?_
  refine lq_arg C X hbl hbA hL (i := i) (j := 2) (by omega) (by decide) 3 0 rfl rfl dL_law_1191 dL_law_1192 dL_law_1193 dL_law_1194 dL_law_1195 ?_
  refine lq_call (As := [.int (xs (i + 1)), .int (xs (i + 2))]) (rest := [.int r]) C (by decide) (pw_sh_54 _) rfl (ct_X6_ask l C.2.2.2.2.2.2.2.2 h2) (cwV 2 C.2.2.2.2.1 gL_law_X6_ask rfl rfl rfl (by decide +kernel) ⟨Nat.le_of_ble_eq_true rfl, Nat.le_of_ble_eq_true rfl⟩) rfl rfl (Nat.le_of_ble_eq_true rfl) dL_law_1196 ?_
  exact lq_cmp C dL_law_1199 (by decide) (kk μ2 I2)
theorem lc_trace (C : pw_F p s m #[Value.ref b] meth c cL_law 4 RL ret wsL_law G) (X : va_X b L xs s s.heap) (hbl : b < s.heap.size) (hbA : ¬ gA G b) (hL : L ≤ 3072) {i : Nat} (hi : i + 6 ≤ L) {μ : pw_Mem} (I : Iv μ) (kk : ∀ μ', Iv μ' → lq_Go p l e s m b below meth c G 1263 (lq_lv G b i) [] μ') : lq_Go p l e s m b below meth c G 1204 (lq_lv G b i) [] μ := by
  obtain ⟨r, μ1, μ2, h1, h2, I2⟩ := q_trace I (xs (i + 1))
  refine lq_aload_n C dL_law_1204 rfl 2 rfl ?_
  refine lq_arg C X hbl hbA hL (i := i) (j := 1) (by omega) (by decide) 3 0 rfl rfl dL_law_1205 dL_law_1206 dL_law_1207 dL_law_1208 dL_law_1209 ?_
  refine lq_call (As := [.int (xs (i + 1))]) (rest := []) C (by decide) (pw_sh_0 _) rfl (ct_X5_trace l C.2.2.2.2.2.2.2.2 h1) (cwV 1 C.2.2.2.2.1 gL_law_X5_trace rfl rfl rfl (by decide +kernel) ⟨Nat.le_of_ble_eq_true rfl, Nat.le_of_ble_eq_true rfl⟩) rfl rfl (Nat.le_of_ble_eq_true rfl) dL_law_1210 ?_
  refine lq_aload_n C dL_law_1213 rfl 1 rfl ?_
  refine lq_arg C X hbl hbA hL (i := i) (j := 1) (by omega) (by decide) 3 0 rfl rfl dL_law_1214 dL_law_1215 dL_law_1216 dL_law_1217 dL_law_1218 ?_
  refine lq_call (As := [.int (xs (i + 1))]) (rest := [.int r]) C (by decide) (pw_sh_54 _) rfl (ct_X6_trace l C.2.2.2.2.2.2.2.2 h2) (cwV 1 C.2.2.2.2.1 gL_law_X6_trace rfl rfl rfl (by decide +kernel) ⟨Nat.le_of_ble_eq_true rfl, Nat.le_of_ble_eq_true rfl⟩) rfl rfl (Nat.le_of_ble_eq_true rfl) dL_law_1219 ?_
  exact lq_cmp C dL_law_1222 (by decide) (kk μ2 I2)
theorem lc_count (C : pw_F p s m #[Value.ref b] meth c cL_law 4 RL ret wsL_law G) (X : va_X b L xs s s.heap) (hbl : b < s.heap.size) (hbA : ¬ gA G b) (hL : L ≤ 3072) {i : Nat} (hi : i + 6 ≤ L) {μ : pw_Mem} (I : Iv μ) (kk : ∀ μ', Iv μ' → lq_Go p l e s m b below meth c G 1263 (lq_lv G b i) [] μ') : lq_Go p l e s m b below meth c G 1227 (lq_lv G b i) [] μ := by
  obtain ⟨r, μ1, μ2, h1, h2, I2⟩ := q_count I (xs (i + 1))
  refine lq_aload_n C dL_law_1227 rfl 2 rfl ?_
  refine lq_arg C X hbl hbA hL (i := i) (j := 1) (by omega) (by decide) 3 0 rfl rfl dL_law_1228 dL_law_1229 dL_law_1230 dL_law_1231 dL_law_1232 ?_
  refine lq_call (As := [.int (xs (i + 1))]) (rest := []) C (by decide) (pw_sh_0 _) rfl (ct_X5_count l C.2.2.2.2.2.2.2.2 h1) (cwV 1 C.2.2.2.2.1 gL_law_X5_count rfl rfl rfl (by decide +kernel) ⟨Nat.le_of_ble_eq_true rfl, Nat.le_of_ble_eq_true rfl⟩) rfl rfl (Nat.le_of_ble_eq_true rfl) dL_law_1233 ?_
  refine lq_aload_n C dL_law_1236 rfl 1 rfl ?_
  refine lq_arg C X hbl hbA hL (i := i) (j := 1) (by omega) (by decide) 3 0 rfl rfl dL_law_1237 dL_law_1238 dL_law_1239 dL_law_1240 dL_law_1241 ?_
  refine lq_call (As := [.int (xs (i + 1))]) (rest := [.int r]) C (by decide) (pw_sh_54 _) rfl (ct_X6_count l C.2.2.2.2.2.2.2.2 h2) (cwV 1 C.2.2.2.2.1 gL_law_X6_count rfl rfl rfl (by decide +kernel) ⟨Nat.le_of_ble_eq_true rfl, Nat.le_of_ble_eq_true rfl⟩) rfl rfl (Nat.le_of_ble_eq_true rfl) dL_law_1242 ?_
  exact lq_cmp C dL_law_1245 (by decide) (kk μ2 I2)
theorem lc_status (C : pw_F p s m #[Value.ref b] meth c cL_law 4 RL ret wsL_law G) (X : va_X b L xs s s.heap) (hbl : b < s.heap.size) (hbA : ¬ gA G b) (hL : L ≤ 3072) {i : Nat} (hi : i + 6 ≤ L) {μ : pw_Mem} (I : Iv μ) (kk : ∀ μ', Iv μ' → lq_Go p l e s m b below meth c G 1263 (lq_lv G b i) [] μ') : lq_Go p l e s m b below meth c G 1250 (lq_lv G b i) [] μ := by
  obtain ⟨r, μ1, μ2, h1, h2, I2⟩ := q_status I 
  refine lq_aload_n C dL_law_1250 rfl 2 rfl ?_
  refine lq_call (As := []) (rest := []) C (by decide) (pw_sh_0 _) rfl (ct_X5_status l C.2.2.2.2.2.2.2.2 h1) (cwV 0 C.2.2.2.2.1 gL_law_X5_status rfl rfl rfl (by decide +kernel) ⟨Nat.le_of_ble_eq_true rfl, Nat.le_of_ble_eq_true rfl⟩) rfl rfl (Nat.le_of_ble_eq_true rfl) dL_law_1251 ?_
  refine lq_aload_n C dL_law_1254 rfl 1 rfl ?_
  refine lq_call (As := []) (rest := [.int r]) C (by decide) (pw_sh_54 _) rfl (ct_X6_status l C.2.2.2.2.2.2.2.2 h2) (cwV 0 C.2.2.2.2.1 gL_law_X6_status rfl rfl rfl (by decide +kernel) ⟨Nat.le_of_ble_eq_true rfl, Nat.le_of_ble_eq_true rfl⟩) rfl rfl (Nat.le_of_ble_eq_true rfl) dL_law_1255 ?_
  exact lq_cmp C dL_law_1258 (by decide) (kk μ2 I2)
end LC
