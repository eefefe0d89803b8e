def fl_X0_keep_23 (k : Int32 → pw_Mem → Option (pw_Mem)) (o1 : Nat) : Nat → Int32 → Int32 → pw_Mem → Option (pw_Mem)
  | 0, _, _, _ => none
  | n + 1, v2, v3, m => (if (9 : Int32) ≤ v3 then k v2 m else fn_ix v3 9 (fun j42 => fn_ix v2 480 (fun j43 => fl_X0_keep_23 k o1 n (v2 + 1) (v3 + 1) (pw_st m 21 j43 (m (o1 + 2) j42)))))
def fl_X0_keep_52 (k : pw_Mem → Option (pw_Mem)) (o1 : Nat) : Nat → Int32 → Int32 → pw_Mem → Option (pw_Mem)
  | 0, _, _, _ => none
  | n + 1, v2, v3, m => (if (5 : Int32) ≤ v3 then k m else fn_ix v3 5 (fun j70 => fn_ix v2 480 (fun j71 => fn_ix v3 5 (fun j85 => fn_ix (v2 + 1) 480 (fun j86 => fl_X0_keep_52 k o1 n ((v2 + 1) + 1) (v3 + 1) (pw_st (pw_st m 21 j71 (m (o1 + 4) j70)) 21 j86 ((pw_st m 21 j71 (m (o1 + 4) j70)) (o1 + 5) j85)))))))
def fn_X0_keep (o1 : Nat) (μ : pw_Mem) : Option (pw_Mem) :=
  fn_ix ((μ 20 2) * (20 : Int32)) 480 (fun j20 => fl_X0_keep_23 (fun y23_2 m50 => fl_X0_keep_52 (fun m93 => fn_jn1 (fun x115_0 m115 => some (pw_st (pw_st m115 20 2 x115_0) 20 1 (if (24 : Int32) < (((pw_st m115 20 2 x115_0) 20 1) + (1 : Int32)) then (24 : Int32) else (((pw_st m115 20 2 x115_0) 20 1) + (1 : Int32))))) (fun k115 => (if (24 : Int32) ≤ ((m93 20 2) + (1 : Int32)) then k115 (0 : Int32) m93 else k115 ((m93 20 2) + (1 : Int32)) m93))) o1 1000 y23_2 (0 : Int32) m50) o1 1000 (((μ 20 2) * (20 : Int32)) + 1) (0 : Int32) (pw_st μ 21 j20 (μ o1 3)))
def fl_X0_giveBack_55 (k : Int32 → pw_Mem → Option (pw_Mem)) (o1 : Nat) : Nat → Int32 → Int32 → pw_Mem → Option (pw_Mem)
  | 0, _, _, _ => none
  | n + 1, v2, v3, m => (if (9 : Int32) ≤ v3 then k v2 m else fn_ix v2 480 (fun j74 => fn_ix v3 9 (fun j75 => fl_X0_giveBack_55 k o1 n (v2 + 1) (v3 + 1) (pw_st m (o1 + 2) j75 (m 21 j74)))))
def fl_X0_giveBack_84 (k : pw_Mem → Option (pw_Mem)) (o1 : Nat) : Nat → Int32 → Int32 → pw_Mem → Option (pw_Mem)
  | 0, _, _, _ => none
  | n + 1, v2, v3, m => (if (5 : Int32) ≤ v3 then k m else fn_ix v2 480 (fun j102 => fn_ix v3 5 (fun j103 => fn_ix (v2 + 1) 480 (fun j117 => fn_ix v3 5 (fun j118 => fl_X0_giveBack_84 k o1 n ((v2 + 1) + 1) (v3 + 1) (pw_st (pw_st m (o1 + 4) j103 (m 21 j102)) (o1 + 5) j118 ((pw_st m (o1 + 4) j103 (m 21 j102)) 21 j117)))))))
def fn_X0_giveBack (o1 : Nat) (μ : pw_Mem) : Option (pw_Mem) :=
  fn_jn1 (fun x19_0 m19 => fn_ix (((pw_st (pw_st m19 20 2 x19_0) 20 1 (((pw_st m19 20 2 x19_0) 20 1) - (1 : Int32))) 20 2) * (20 : Int32)) 480 (fun j49 => fl_X0_giveBack_55 (fun y55_2 m82 => fl_X0_giveBack_84 (fun m125 => some m125) o1 1000 y55_2 (0 : Int32) m82) o1 1000 ((((pw_st (pw_st m19 20 2 x19_0) 20 1 (((pw_st m19 20 2 x19_0) 20 1) - (1 : Int32))) 20 2) * (20 : Int32)) + 1) (0 : Int32) (pw_st (pw_st (pw_st m19 20 2 x19_0) 20 1 (((pw_st m19 20 2 x19_0) 20 1) - (1 : Int32))) o1 3 ((pw_st (pw_st m19 20 2 x19_0) 20 1 (((pw_st m19 20 2 x19_0) 20 1) - (1 : Int32))) 21 j49)))) (fun k19 => (if (μ 20 2) ≤ 0 then k19 (23 : Int32) μ else k19 ((μ 20 2) - (1 : Int32)) μ))
def fl_X1_bodyOf_19_t3 (k : Int32 → pw_Mem → Option (Int32 × pw_Mem))  : Nat → Int32 → Int32 → pw_Mem → Option (Int32 × pw_Mem)
  | 0, _, _, _ => none
  | n + 1, v3, v4, m => (if (6 : Int32) ≤ v4 then k v3 m else fn_ix v3 6 (fun j28 => (if (pw_tv 3 j28) ≠ 0 then k v3 m else fn_ix v3 6 (fun j36 => fl_X1_bodyOf_19_t3 k  n (pw_tv 1 j36) (v4 + 1) m))))
def fl_X1_bodyOf_19_t2 (k : Int32 → pw_Mem → Option (Int32 × pw_Mem))  : Nat → Int32 → Int32 → pw_Mem → Option (Int32 × pw_Mem)
  | 0, _, _, _ => none
  | n + 1, v3, v4, m => (if (6 : Int32) ≤ v4 then k v3 m else fn_ix v3 6 (fun j28 => (if (pw_tv 2 j28) ≠ 0 then k v3 m else fn_ix v3 6 (fun j36 => fl_X1_bodyOf_19_t2 k  n (pw_tv 1 j36) (v4 + 1) m))))
def fn_X1_bodyOf (a0 : Int32) (a1 : Int32) (μ : pw_Mem) : Option (Int32 × pw_Mem) :=
  (if a1 ≠ 0 then fl_X1_bodyOf_19_t3 (fun y19_3 m44 => fn_ix y19_3 6 (fun j46 => some ((pw_tv 3 j46), m44)))  1000 a0 (0 : Int32) μ else fl_X1_bodyOf_19_t2 (fun y19_3 m44 => fn_ix y19_3 6 (fun j46 => some ((pw_tv 2 j46), m44)))  1000 a0 (0 : Int32) μ)
def fn_X1_leave (a1 : Int32) (μ : pw_Mem) : Option (pw_Mem) :=
  (if (16 : Int32) ≤ (μ 22 1) then some μ else fn_ix (μ 22 1) 16 (fun j18 => some (pw_st (pw_st μ 23 j18 a1) 22 1 (((pw_st μ 23 j18 a1) 22 1) + (1 : Int32)))))
def fl_X2_begin_22 (k : pw_Mem → Option (pw_Mem)) (o0 : Nat) : Nat → Int32 → pw_Mem → Option (pw_Mem)
  | 0, _, _ => none
  | n + 1, v1, m => (if (9 : Int32) ≤ v1 then k m else fn_ix v1 9 (fun j34 => fl_X2_begin_22 k o0 n (v1 + 1) (pw_st m (o0 + 2) j34 (0 : Int32))))
def fn_X2_begin (o : Nat) (μ : pw_Mem) : Option (pw_Mem) :=
  fn_bz (1 : Int32) (fl_X2_begin_22 (fun m41 => some m41) o 1000 (0 : Int32) (pw_st (pw_st (pw_st (pw_st μ o 0 (1 : Int32)) o 3 (0 : Int32)) o 4 (0 : Int32)) o 5 (0 : Int32)))
def fl_X2_take_50 (k : pw_Mem → Option (pw_Mem)) (o0 : Nat) (o1 : Nat) : Nat → Int32 → pw_Mem → Option (pw_Mem)
  | 0, _, _ => none
  | n + 1, v2, m => (if (9 : Int32) ≤ v2 then k m else fn_ix v2 9 (fun j66 => fn_ix v2 9 (fun j67 => fn_ix v2 9 (fun j78 => fn_ix v2 9 (fun j79 => fl_X2_take_50 k o0 o1 n (v2 + 1) (pw_st (pw_st m (o0 + 1) j67 (m (o1 + 1) j66)) (o0 + 2) j79 ((pw_st m (o0 + 1) j67 (m (o1 + 1) j66)) (o1 + 2) j78)))))))
def fl_X2_take_88 (k : pw_Mem → Option (pw_Mem)) (o0 : Nat) (o1 : Nat) : Nat → Int32 → pw_Mem → Option (pw_Mem)
  | 0, _, _ => none
  | n + 1, v2, m => (if (5 : Int32) ≤ v2 then k m else fn_ix v2 5 (fun j103 => fn_ix v2 5 (fun j104 => fn_ix v2 5 (fun j115 => fn_ix v2 5 (fun j116 => fn_ix v2 5 (fun j127 => fn_ix v2 5 (fun j128 => fl_X2_take_88 k o0 o1 n (v2 + 1) (pw_st (pw_st (pw_st m (o0 + 3) j104 (m (o1 + 3) j103)) (o0 + 4) j116 ((pw_st m (o0 + 3) j104 (m (o1 + 3) j103)) (o1 + 4) j115)) (o0 + 5) j128 ((pw_st (pw_st m (o0 + 3) j104 (m (o1 + 3) j103)) (o0 + 4) j116 ((pw_st m (o0 + 3) j104 (m (o1 + 3) j103)) (o1 + 4) j115)) (o1 + 5) j127)))))))))
def fn_X2_take (o : Nat) (o1 : Nat) (μ : pw_Mem) : Option (pw_Mem) :=
  fn_bz (μ o1 0) (fl_X2_take_50 (fun m86 => fl_X2_take_88 (fun m135 => some m135) o o1 1000 (0 : Int32) m86) o o1 1000 (0 : Int32) (pw_st (pw_st (pw_st (pw_st (pw_st (pw_st μ o 0 (μ o1 0)) o 1 ((pw_st μ o 0 (μ o1 0)) o1 1)) o 2 ((pw_st (pw_st μ o 0 (μ o1 0)) o 1 ((pw_st μ o 0 (μ o1 0)) o1 1)) o1 2)) o 3 ((pw_st (pw_st (pw_st μ o 0 (μ o1 0)) o 1 ((pw_st μ o 0 (μ o1 0)) o1 1)) o 2 ((pw_st (pw_st μ o 0 (μ o1 0)) o 1 ((pw_st μ o 0 (μ o1 0)) o1 1)) o1 2)) o1 3)) o 4 ((pw_st (pw_st (pw_st (pw_st μ o 0 (μ o1 0)) o 1 ((pw_st μ o 0 (μ o1 0)) o1 1)) o 2 ((pw_st (pw_st μ o 0 (μ o1 0)) o 1 ((pw_st μ o 0 (μ o1 0)) o1 1)) o1 2)) o 3 ((pw_st (pw_st (pw_st μ o 0 (μ o1 0)) o 1 ((pw_st μ o 0 (μ o1 0)) o1 1)) o 2 ((pw_st (pw_st μ o 0 (μ o1 0)) o 1 ((pw_st μ o 0 (μ o1 0)) o1 1)) o1 2)) o1 3)) o1 4)) o 5 ((pw_st (pw_st (pw_st (pw_st (pw_st μ o 0 (μ o1 0)) o 1 ((pw_st μ o 0 (μ o1 0)) o1 1)) o 2 ((pw_st (pw_st μ o 0 (μ o1 0)) o 1 ((pw_st μ o 0 (μ o1 0)) o1 1)) o1 2)) o 3 ((pw_st (pw_st (pw_st μ o 0 (μ o1 0)) o 1 ((pw_st μ o 0 (μ o1 0)) o1 1)) o 2 ((pw_st (pw_st μ o 0 (μ o1 0)) o 1 ((pw_st μ o 0 (μ o1 0)) o1 1)) o1 2)) o1 3)) o 4 ((pw_st (pw_st (pw_st (pw_st μ o 0 (μ o1 0)) o 1 ((pw_st μ o 0 (μ o1 0)) o1 1)) o 2 ((pw_st (pw_st μ o 0 (μ o1 0)) o 1 ((pw_st μ o 0 (μ o1 0)) o1 1)) o1 2)) o 3 ((pw_st (pw_st (pw_st μ o 0 (μ o1 0)) o 1 ((pw_st μ o 0 (μ o1 0)) o1 1)) o 2 ((pw_st (pw_st μ o 0 (μ o1 0)) o 1 ((pw_st μ o 0 (μ o1 0)) o1 1)) o1 2)) o1 3)) o1 4)) o1 5)))
def fn_X2_nextOf (o : Nat) (a1 : Int32) (μ : pw_Mem) : Option (Int32 × pw_Mem) :=
  (if (μ o 4) ≤ (a1 + (1 : Int32)) then some ((0 : Int32), μ) else some ((a1 + (1 : Int32)), μ))
def fn_X2_beforeOf (o : Nat) (a1 : Int32) (μ : pw_Mem) : Option (Int32 × pw_Mem) :=
  (if a1 ≤ 0 then some (((μ o 4) - (1 : Int32)), μ) else some ((a1 - (1 : Int32)), μ))
def fn_X2_allWords (o : Nat) (μ : pw_Mem) : Option (Int32 × pw_Mem) :=
  some ((((1 : Int32) <<< ((μ o 1) &&& 31)) - (1 : Int32)), μ)
def fl_X2_councils_6 (k : Int32 → pw_Mem → Option (Int32 × pw_Mem)) (o0 : Nat) : Nat → Int32 → Int32 → Int32 → pw_Mem → Option (Int32 × pw_Mem)
  | 0, _, _, _, _ => none
  | n + 1, v1, v2, v3, m => (if (m o0 5) ≤ v3 then k v2 m else fn_ix v3 5 (fun j20 => fn_jn1 (fun x33_0 m33 => fn_ix v3 5 (fun j40 => fl_X2_councils_6 k o0 n (v1 ||| ((1 : Int32) <<< ((m33 (o0 + 4) j40) &&& 31))) x33_0 (v3 + 1) m33)) (fun k33 => (if ((v1 >>> ((m (o0 + 4) j20) &&& 31)) &&& (1 : Int32)) = 0 then k33 v2 m else k33 (v2 ||| ((1 : Int32) <<< (v3 &&& 31))) m))))
def fn_X2_councils (o : Nat) (μ : pw_Mem) : Option (Int32 × pw_Mem) :=
  fl_X2_councils_6 (fun y6_2 m50 => some (y6_2, m50)) o 1000 (0 : Int32) (0 : Int32) (0 : Int32) μ
def fn_X2_wordAfter (o : Nat) (a1 : Int32) (a2 : Int32) (μ : pw_Mem) : Option (Int32 × pw_Mem) :=
  fn_ix a1 5 (fun j5 => (if (μ (o + 3) j5) ≠ (5 : Int32) then (if (μ o 1) ≤ (a2 + (1 : Int32)) then some ((0 : Int32), μ) else some ((a2 + (1 : Int32)), μ)) else (if a2 ≤ 0 then some (((μ o 1) - (1 : Int32)), μ) else some ((a2 - (1 : Int32)), μ))))
def fl_X2_sayings_24 (k : Int32 → pw_Mem → Option (Int32 × pw_Mem)) (o0 : Nat) (w1 : Int32) : Nat → Int32 → Int32 → Int32 → pw_Mem → Option (Int32 × pw_Mem)
  | 0, _, _, _, _ => none
  | n + 1, v2, v3, v4, m => fn_ix w1 5 (fun j38 => fn_ix (m (o0 + 4) j38) 9 (fun j39 => fn_ix (m (o0 + 1) j39) 3 (fun j40 => (if (pw_tv 0 j40) ≤ v4 then k v2 m else fn_bi (fn_X2_wordAfter o0 w1 v3 m) (fun r53 m53 => fl_X2_sayings_24 k o0 w1 n (v2 ||| ((1 : Int32) <<< (v3 &&& 31))) r53 (v4 + 1) m53)))))
def fn_X2_sayings (o : Nat) (a1 : Int32) (μ : pw_Mem) : Option (Int32 × pw_Mem) :=
  fn_ix a1 5 (fun j5 => (if (μ (o + 3) j5) ≠ (4 : Int32) then fn_ix a1 5 (fun j19 => fl_X2_sayings_24 (fun y24_2 m63 => some (y24_2, m63)) o a1 1000 (0 : Int32) (μ (o + 5) j19) (0 : Int32) μ) else some ((0 : Int32), μ)))
def fn_X2_stretchBehind (o : Nat) (a1 : Int32) (a2 : Int32) (μ : pw_Mem) : Option (Int32 × pw_Mem) :=
  fn_ix a1 5 (fun j5 => (if (μ (o + 3) j5) ≠ (2 : Int32) then fn_ix a1 5 (fun j26 => fn_jn1 (fun x47_0 m47 => (if x47_0 = 0 then fn_ix a1 5 (fun j67 => fn_bi (fn_X2_nextOf o (m47 (o + 4) j67) m47) (fun r68 m68 => some (r68, m68))) else fn_ix a1 5 (fun j57 => some ((m47 (o + 4) j57), m47)))) (fun k47 => fn_jn0 (fun m46 => k47 (0 : Int32) m46) (fun k46 => (if (μ (o + 3) j26) ≠ (3 : Int32) then k46 μ else (if ((a2 >>> ((μ o 2) &&& 31)) &&& (1 : Int32)) = 0 then k46 μ else k47 (1 : Int32) μ))))) else fn_ix a1 5 (fun j16 => fn_bi (fn_X2_beforeOf o (μ (o + 4) j16) μ) (fun r17 m17 => some (r17, m17)))))
def fl_X2_wordBehind_19 (k : Int32 → pw_Mem → Option (Int32 × pw_Mem)) (o0 : Nat) (w1 : Int32) : Nat → Int32 → Int32 → pw_Mem → Option (Int32 × pw_Mem)
  | 0, _, _, _ => none
  | n + 1, v2, v3, m => fn_ix w1 5 (fun j32 => fn_ix (m (o0 + 4) j32) 9 (fun j33 => fn_ix (m (o0 + 1) j33) 3 (fun j34 => (if (pw_tv 0 j34) ≤ v3 then k v2 m else fn_bi (fn_X2_wordAfter o0 w1 v2 m) (fun r41 m41 => fl_X2_wordBehind_19 k o0 w1 n r41 (v3 + 1) m41)))))
def fn_X2_wordBehind (o : Nat) (a1 : Int32) (μ : pw_Mem) : Option (Int32 × pw_Mem) :=
  fn_ix a1 5 (fun j5 => fn_ix a1 5 (fun j12 => (if (μ (o + 3) j12) = (4 : Int32) then some ((μ (o + 5) j5), μ) else fl_X2_wordBehind_19 (fun y19_2 m51 => some (y19_2, m51)) o a1 1000 (μ (o + 5) j5) (0 : Int32) μ)))
def fn_X2_pass (o : Nat) (a1 : Int32) (μ : pw_Mem) : Option (pw_Mem) :=
  fn_ix a1 5 (fun j5 => fn_bi (fn_X2_sayings o a1 μ) (fun r9 m9 => fn_ix (μ (o + 4) j5) 9 (fun j19 => fn_ix (μ (o + 4) j5) 9 (fun j22 => fn_ix (μ (o + 4) j5) 9 (fun j29 => fn_ix (μ (o + 4) j5) 9 (fun j32 => fn_bi (fn_X2_wordBehind o a1 (pw_st (pw_st m9 (o + 6) j22 ((m9 (o + 6) j19) ||| r9)) (o + 2) j32 (((pw_st m9 (o + 6) j22 ((m9 (o + 6) j19) ||| r9)) (o + 2) j29) ||| r9))) (fun r40 m40 => fn_ix a1 5 (fun j43 => fn_bi (fn_X2_stretchBehind o a1 r9 (pw_st m40 (o + 5) j43 r40)) (fun r52 m52 => fn_ix a1 5 (fun j55 => some (pw_st m52 (o + 4) j55 r52)))))))))))
def fl_X2_goHour_7 (k : pw_Mem → Option (pw_Mem)) (o0 : Nat) (w1 : Int32) : Nat → Int32 → pw_Mem → Option (pw_Mem)
  | 0, _, _ => none
  | n + 1, v2, m => (if (m o0 4) ≤ v2 then k m else fn_ix v2 9 (fun j21 => fl_X2_goHour_7 k o0 w1 n (v2 + 1) (pw_st m (o0 + 6) j21 (0 : Int32))))
def fl_X2_goHour_30 (k : pw_Mem → Option (pw_Mem)) (o0 : Nat) (w1 : Int32) : Nat → Int32 → pw_Mem → Option (pw_Mem)
  | 0, _, _ => none
  | n + 1, v2, m => (if (m o0 5) ≤ v2 then k m else fn_jn0 (fun m51 => fl_X2_goHour_30 k o0 w1 n (v2 + 1) m51) (fun k51 => (if ((w1 >>> (v2 &&& 31)) &&& (1 : Int32)) ≠ 0 then k51 m else fn_bv (fn_X2_pass o0 v2 m) (fun m48 => k51 m48))))
def fn_X2_goHour (o : Nat) (μ : pw_Mem) : Option (pw_Mem) :=
  fn_bi (fn_X2_councils o μ) (fun r1 m1 => fl_X2_goHour_7 (fun m28 => fl_X2_goHour_30 (fun m57 => some (pw_st m57 o 3 ((m57 o 3) + (1 : Int32)))) o r1 1000 (0 : Int32) m28) o r1 1000 (0 : Int32) m1)
def fl_X2_goHours_2 (k : pw_Mem → Option (pw_Mem)) (o0 : Nat) (w1 : Int32) : Nat → Int32 → pw_Mem → Option (pw_Mem)
  | 0, _, _ => none
  | n + 1, v2, m => (if w1 ≤ v2 then k m else fn_bv (fn_X2_goHour o0 m) (fun m8 => fl_X2_goHours_2 k o0 w1 n (v2 + 1) m8))
def fn_X2_goHours (o : Nat) (a1 : Int32) (μ : pw_Mem) : Option (pw_Mem) :=
  fl_X2_goHours_2 (fun m17 => some m17) o a1 1000 (0 : Int32) μ
def fl_X2_pulpitsOn_4 (k : Int32 → pw_Mem → Option (Int32 × pw_Mem)) (o0 : Nat) (w1 : Int32) : Nat → Int32 → Int32 → pw_Mem → Option (Int32 × pw_Mem)
  | 0, _, _, _ => none
  | n + 1, v2, v3, m => (if (m o0 5) ≤ v3 then k v2 m else fn_ix v3 5 (fun j17 => fn_jn1 (fun x28_0 m28 => fl_X2_pulpitsOn_4 k o0 w1 n x28_0 (v3 + 1) m28) (fun k28 => (if (m (o0 + 4) j17) ≠ w1 then k28 v2 m else k28 (v2 ||| ((1 : Int32) <<< (v3 &&& 31))) m))))
def fn_X2_pulpitsOn (o : Nat) (a1 : Int32) (μ : pw_Mem) : Option (Int32 × pw_Mem) :=
  fl_X2_pulpitsOn_4 (fun y4_2 m34 => some (y4_2, m34)) o a1 1000 (0 : Int32) (0 : Int32) μ
def fl_X2_hasPulpitsAs_2 (k : pw_Mem → Option (Int32 × pw_Mem)) (o0 : Nat) (o1 : Nat) : Nat → Int32 → pw_Mem → Option (Int32 × pw_Mem)
  | 0, _, _ => none
  | n + 1, v2, m => (if (m o0 5) ≤ v2 then k m else fn_ix v2 5 (fun j15 => fn_ix v2 5 (fun j21 => (if (m (o0 + 4) j15) ≠ (m (o1 + 4) j21) then fn_bz (0 : Int32) (some ((0 : Int32), m)) else fn_ix v2 5 (fun j30 => fn_ix v2 5 (fun j36 => (if (m (o0 + 5) j30) = (m (o1 + 5) j36) then fl_X2_hasPulpitsAs_2 k o0 o1 n (v2 + 1) m else fn_bz (0 : Int32) (some ((0 : Int32), m)))))))))
def fn_X2_hasPulpitsAs (o : Nat) (o1 : Nat) (μ : pw_Mem) : Option (Int32 × pw_Mem) :=
  fl_X2_hasPulpitsAs_2 (fun m48 => fn_bz (1 : Int32) (some ((1 : Int32), m48))) o o1 1000 (0 : Int32) μ
def fl_X2_wholeGates_4 (k : Int32 → pw_Mem → Option (Int32 × pw_Mem)) (o0 : Nat) : Nat → Int32 → Int32 → pw_Mem → Option (Int32 × pw_Mem)
  | 0, _, _, _ => none
  | n + 1, v1, v2, m => (if (m o0 4) ≤ v2 then k v1 m else fn_ix v2 9 (fun j17 => fn_bi (fn_X2_allWords o0 m) (fun r19 m19 => fn_jn1 (fun x31_0 m31 => fl_X2_wholeGates_4 k o0 n x31_0 (v2 + 1) m31) (fun k31 => (if (m (o0 + 2) j17) ≠ r19 then k31 v1 m19 else k31 (v1 ||| ((1 : Int32) <<< (v2 &&& 31))) m19)))))
def fn_X2_wholeGates (o : Nat) (μ : pw_Mem) : Option (Int32 × pw_Mem) :=
  fl_X2_wholeGates_4 (fun y4_1 m37 => some (y4_1, m37)) o 1000 (0 : Int32) (0 : Int32) μ
def fl_X2_heardAtAny_4 (k : Int32 → pw_Mem → Option (Int32 × pw_Mem)) (o0 : Nat) (w1 : Int32) : Nat → Int32 → Int32 → pw_Mem → Option (Int32 × pw_Mem)
  | 0, _, _, _ => none
  | n + 1, v2, v3, m => (if (m o0 4) ≤ v3 then k v2 m else fn_jn1 (fun x29_0 m29 => fl_X2_heardAtAny_4 k o0 w1 n x29_0 (v3 + 1) m29) (fun k29 => (if ((w1 >>> (v3 &&& 31)) &&& (1 : Int32)) = 0 then k29 v2 m else fn_ix v3 9 (fun j26 => k29 (v2 ||| (m (o0 + 2) j26)) m))))
def fn_X2_heardAtAny (o : Nat) (a1 : Int32) (μ : pw_Mem) : Option (Int32 × pw_Mem) :=
  fl_X2_heardAtAny_4 (fun y4_2 m35 => some (y4_2, m35)) o a1 1000 (0 : Int32) (0 : Int32) μ
def fn_J6_bitCount_0f7a4 (a0 : Int32) (μ : pw_Mem) : Option (Int32 × pw_Mem) :=
  some (((((((((a0 - (((a0).toUInt32 >>> (((1 : Int32)).toUInt32 &&& Int32.toUInt32 31)).toInt32 &&& (1431655765 : Int32))) &&& (858993459 : Int32)) + ((((a0 - (((a0).toUInt32 >>> (((1 : Int32)).toUInt32 &&& Int32.toUInt32 31)).toInt32 &&& (1431655765 : Int32)))).toUInt32 >>> (((2 : Int32)).toUInt32 &&& Int32.toUInt32 31)).toInt32 &&& (858993459 : Int32))) + (((((a0 - (((a0).toUInt32 >>> (((1 : Int32)).toUInt32 &&& Int32.toUInt32 31)).toInt32 &&& (1431655765 : Int32))) &&& (858993459 : Int32)) + ((((a0 - (((a0).toUInt32 >>> (((1 : Int32)).toUInt32 &&& Int32.toUInt32 31)).toInt32 &&& (1431655765 : Int32)))).toUInt32 >>> (((2 : Int32)).toUInt32 &&& Int32.toUInt32 31)).toInt32 &&& (858993459 : Int32)))).toUInt32 >>> (((4 : Int32)).toUInt32 &&& Int32.toUInt32 31)).toInt32) &&& (252645135 : Int32)) + (((((((a0 - (((a0).toUInt32 >>> (((1 : Int32)).toUInt32 &&& Int32.toUInt32 31)).toInt32 &&& (1431655765 : Int32))) &&& (858993459 : Int32)) + ((((a0 - (((a0).toUInt32 >>> (((1 : Int32)).toUInt32 &&& Int32.toUInt32 31)).toInt32 &&& (1431655765 : Int32)))).toUInt32 >>> (((2 : Int32)).toUInt32 &&& Int32.toUInt32 31)).toInt32 &&& (858993459 : Int32))) + (((((a0 - (((a0).toUInt32 >>> (((1 : Int32)).toUInt32 &&& Int32.toUInt32 31)).toInt32 &&& (1431655765 : Int32))) &&& (858993459 : Int32)) + ((((a0 - (((a0).toUInt32 >>> (((1 : Int32)).toUInt32 &&& Int32.toUInt32 31)).toInt32 &&& (1431655765 : Int32)))).toUInt32 >>> (((2 : Int32)).toUInt32 &&& Int32.toUInt32 31)).toInt32 &&& (858993459 : Int32)))).toUInt32 >>> (((4 : Int32)).toUInt32 &&& Int32.toUInt32 31)).toInt32) &&& (252645135 : Int32))).toUInt32 >>> (((8 : Int32)).toUInt32 &&& Int32.toUInt32 31)).toInt32) + ((((((((a0 - (((a0).toUInt32 >>> (((1 : Int32)).toUInt32 &&& Int32.toUInt32 31)).toInt32 &&& (1431655765 : Int32))) &&& (858993459 : Int32)) + ((((a0 - (((a0).toUInt32 >>> (((1 : Int32)).toUInt32 &&& Int32.toUInt32 31)).toInt32 &&& (1431655765 : Int32)))).toUInt32 >>> (((2 : Int32)).toUInt32 &&& Int32.toUInt32 31)).toInt32 &&& (858993459 : Int32))) + (((((a0 - (((a0).toUInt32 >>> (((1 : Int32)).toUInt32 &&& Int32.toUInt32 31)).toInt32 &&& (1431655765 : Int32))) &&& (858993459 : Int32)) + ((((a0 - (((a0).toUInt32 >>> (((1 : Int32)).toUInt32 &&& Int32.toUInt32 31)).toInt32 &&& (1431655765 : Int32)))).toUInt32 >>> (((2 : Int32)).toUInt32 &&& Int32.toUInt32 31)).toInt32 &&& (858993459 : Int32)))).toUInt32 >>> (((4 : Int32)).toUInt32 &&& Int32.toUInt32 31)).toInt32) &&& (252645135 : Int32)) + (((((((a0 - (((a0).toUInt32 >>> (((1 : Int32)).toUInt32 &&& Int32.toUInt32 31)).toInt32 &&& (1431655765 : Int32))) &&& (858993459 : Int32)) + ((((a0 - (((a0).toUInt32 >>> (((1 : Int32)).toUInt32 &&& Int32.toUInt32 31)).toInt32 &&& (1431655765 : Int32)))).toUInt32 >>> (((2 : Int32)).toUInt32 &&& Int32.toUInt32 31)).toInt32 &&& (858993459 : Int32))) + (((((a0 - (((a0).toUInt32 >>> (((1 : Int32)).toUInt32 &&& Int32.toUInt32 31)).toInt32 &&& (1431655765 : Int32))) &&& (858993459 : Int32)) + ((((a0 - (((a0).toUInt32 >>> (((1 : Int32)).toUInt32 &&& Int32.toUInt32 31)).toInt32 &&& (1431655765 : Int32)))).toUInt32 >>> (((2 : Int32)).toUInt32 &&& Int32.toUInt32 31)).toInt32 &&& (858993459 : Int32)))).toUInt32 >>> (((4 : Int32)).toUInt32 &&& Int32.toUInt32 31)).toInt32) &&& (252645135 : Int32))).toUInt32 >>> (((8 : Int32)).toUInt32 &&& Int32.toUInt32 31)).toInt32)).toUInt32 >>> (((16 : Int32)).toUInt32 &&& Int32.toUInt32 31)).toInt32) &&& (63 : Int32)), μ)
def fl_X2_wordsHeard_4 (k : Int32 → pw_Mem → Option (Int32 × pw_Mem)) (o0 : Nat) : Nat → Int32 → Int32 → pw_Mem → Option (Int32 × pw_Mem)
  | 0, _, _, _ => none
  | n + 1, v1, v2, m => (if (m o0 4) ≤ v2 then k v1 m else fn_ix v2 9 (fun j18 => fn_bi (fn_J6_bitCount_0f7a4 (m (o0 + 2) j18) m) (fun r19 m19 => fl_X2_wordsHeard_4 k o0 n (v1 + r19) (v2 + 1) m19)))
def fn_X2_wordsHeard (o : Nat) (μ : pw_Mem) : Option (Int32 × pw_Mem) :=
  fl_X2_wordsHeard_4 (fun y4_1 m30 => some (y4_1, m30)) o 1000 (0 : Int32) (0 : Int32) μ
def fl_X3_begin_17 (k : pw_Mem → Option (pw_Mem)) (o0 : Nat) (w2 : Int32) : Nat → Int32 → pw_Mem → Option (pw_Mem)
  | 0, _, _ => none
  | n + 1, v3, m => (if w2 ≤ v3 then k m else fn_ix v3 40 (fun j28 => fl_X3_begin_17 k o0 w2 n (v3 + 1) (pw_st m (o0 + 1) j28 (0 : Int32))))
def fn_X3_begin (o : Nat) (a1 : Int32) (a2 : Int32) (μ : pw_Mem) : Option (pw_Mem) :=
  fn_bz (0 : Int32) (fl_X3_begin_17 (fun m35 => some m35) o a2 1000 (0 : Int32) (pw_st (pw_st (pw_st μ o 1 (0 : Int32)) o 2 a1) o 3 a2))
def fn_X3_hasPlaces (o : Nat) (a1 : Int32) (a2 : Int32) (μ : pw_Mem) : Option (Int32 × pw_Mem) :=
  (if a1 < 0 then fn_bz (0 : Int32) (some ((0 : Int32), μ)) else (if a2 < 0 then fn_bz (0 : Int32) (some ((0 : Int32), μ)) else (if (μ o 3) < a1 then fn_bz (0 : Int32) (some ((0 : Int32), μ)) else (if ((μ o 3) - a1) < a2 then fn_bz (0 : Int32) (some ((0 : Int32), μ)) else fn_bz (1 : Int32) (some ((1 : Int32), μ))))))
def fn_X3_cut (o : Nat) (a1 : Int32) (μ : pw_Mem) : Option (Int32 × pw_Mem) :=
  (if (μ o 2) ≠ 0 then (if (μ o 2) ≠ (1 : Int32) then some (a1, μ) else some ((a1).toInt16.toInt32, μ)) else some ((a1).toInt8.toInt32, μ))
def fn_X4_add (a1 : Int32) (μ : pw_Mem) : Option (pw_Mem) :=
  (if (90 : Int32) ≤ (μ 2 1) then some μ else fn_ix (μ 2 1) 90 (fun j18 => some (pw_st (pw_st μ 3 j18 a1) 2 1 (((pw_st μ 3 j18 a1) 2 1) + (1 : Int32)))))
def fn_X4_blame (a1 : Int32) (μ : pw_Mem) : Option (Int32 × pw_Mem) :=
  fn_bz (0 : Int32) (some ((0 : Int32), (pw_st μ 2 3 a1)))
def fn_X4_letterAt (a1 : Int32) (μ : pw_Mem) : Option (Int32 × pw_Mem) :=
  (if a1 < 0 then some ((-1 : Int32), μ) else (if (μ 2 1) ≤ a1 then some ((-1 : Int32), μ) else fn_ix a1 90 (fun j17 => some ((μ 3 j17), μ))))
def fn_X4_isFigure (a1 : Int32) (μ : pw_Mem) : Option (Int32 × pw_Mem) :=
  fn_bi (fn_X4_letterAt a1 μ) (fun r2 m2 => (if r2 < (48 : Int32) then fn_bz (0 : Int32) (some ((0 : Int32), m2)) else (if (57 : Int32) < r2 then fn_bz (0 : Int32) (some ((0 : Int32), m2)) else fn_bz (1 : Int32) (some ((1 : Int32), m2)))))
def fn_X4_takeNumber (a1 : Int32) (a2 : Int32) (μ : pw_Mem) : Option (Int32 × pw_Mem) :=
  fn_bi (fn_X4_isFigure (μ 2 2) μ) (fun r5 m5 => (if r5 = 0 then fn_bi (fn_X4_blame (1 : Int32) m5) (fun r39 m39 => some (a1, m39)) else fn_bi (fn_X4_isFigure ((m5 2 2) + (1 : Int32)) m5) (fun r18 m18 => fn_jn0 (fun m45 => fn_ix (m45 2 2) 90 (fun j53 => fn_bi (fn_X4_isFigure ((m45 2 2) + (1 : Int32)) m45) (fun r69 m69 => fn_jn2 (fun x94_0 x94_1 m94 => (if x94_0 < a1 then fn_bi (fn_X4_blame (2 : Int32) m94) (fun r106 m106 => some (a1, m106)) else (if x94_0 ≤ a2 then some (x94_0, (pw_st m94 2 2 x94_1)) else fn_bi (fn_X4_blame (2 : Int32) m94) (fun r106 m106 => some (a1, m106))))) (fun k94 => (if r69 = 0 then k94 ((m45 3 j53) - (48 : Int32)) ((m45 2 2) + (1 : Int32)) m69 else fn_ix ((m45 2 2) + (1 : Int32)) 90 (fun j85 => k94 (((((m45 3 j53) - (48 : Int32)) * (10 : Int32)) + (m69 3 j85)) - (48 : Int32)) (((m45 2 2) + (1 : Int32)) + 1) m69)))))) (fun k45 => (if r18 = 0 then k45 m18 else fn_bi (fn_X4_isFigure ((m18 2 2) + (2 : Int32)) m18) (fun r31 m31 => (if r31 = 0 then k45 m31 else fn_bi (fn_X4_blame (1 : Int32) m31) (fun r39 m39 => some (a1, m39)))))))))
def fn_X4_letterHere  (μ : pw_Mem) : Option (Int32 × pw_Mem) :=
  fn_bi (fn_X4_letterAt (μ 2 2) μ) (fun r5 m5 => some (r5, m5))
def fn_X4_takeSign (a1 : Int32) (μ : pw_Mem) : Option (Int32 × pw_Mem) :=
  fn_bi (fn_X4_letterHere μ) (fun r1 m1 => (if r1 = a1 then fn_bz (1 : Int32) (some ((1 : Int32), (pw_st m1 2 2 ((m1 2 2) + (1 : Int32))))) else fn_bi (fn_X4_blame (1 : Int32) m1) (fun r10 m10 => fn_bz r10 (some (r10, m10)))))
def fn_X4_readLaw (o1 : Nat) (μ : pw_Mem) : Option (Int32 × pw_Mem) :=
  fn_bi (fn_X4_takeSign (112 : Int32) μ) (fun r3 m3 => (if r3 ≠ 0 then fn_bi (fn_X4_takeNumber (4 : Int32) (16 : Int32) m3) (fun r16 m16 => (if ((pw_st m16 o1 1 r16) 2 3) ≠ 0 then fn_bz (0 : Int32) (some ((0 : Int32), (pw_st m16 o1 1 r16))) else fn_bi (fn_X4_takeSign (44 : Int32) (pw_st m16 o1 1 r16)) (fun r32 m32 => (if r32 ≠ 0 then fn_bi (fn_X4_takeNumber (0 : Int32) ((m32 o1 1) - (1 : Int32)) m32) (fun r49 m49 => (if ((pw_st m49 o1 2 r49) 2 3) ≠ 0 then fn_bz (0 : Int32) (some ((0 : Int32), (pw_st m49 o1 2 r49))) else fn_bi (fn_X4_takeSign (59 : Int32) (pw_st m49 o1 2 r49)) (fun r65 m65 => (if r65 = 0 then fn_bz (0 : Int32) (some ((0 : Int32), m65)) else fn_bz (1 : Int32) (some ((1 : Int32), m65)))))) else fn_bz (0 : Int32) (some ((0 : Int32), m32)))))) else fn_bz (0 : Int32) (some ((0 : Int32), m3))))
def fn_X4_kindHere  (μ : pw_Mem) : Option (Int32 × pw_Mem) :=
  fn_bi (fn_X4_letterHere μ) (fun r1 m1 => (if r1 = 98 then some ((1 : Int32), m1) else (if r1 = 100 then some ((4 : Int32), m1) else (if r1 = 101 then some ((5 : Int32), m1) else (if r1 = 107 then some ((2 : Int32), m1) else (if r1 = 121 then some ((3 : Int32), m1) else some ((0 : Int32), m1)))))))
def fn_X4_readPulpit (o1 : Nat) (a2 : Int32) (μ : pw_Mem) : Option (Int32 × pw_Mem) :=
  fn_bi (fn_X4_takeNumber (0 : Int32) ((μ o1 4) - (1 : Int32)) μ) (fun r13 m13 => fn_ix a2 5 (fun j16 => (if ((pw_st m13 (o1 + 4) j16 r13) 2 3) ≠ 0 then fn_bz (0 : Int32) (some ((0 : Int32), (pw_st m13 (o1 + 4) j16 r13))) else fn_bi (fn_X4_takeSign (44 : Int32) (pw_st m13 (o1 + 4) j16 r13)) (fun r27 m27 => (if r27 ≠ 0 then fn_bi (fn_X4_takeNumber (0 : Int32) ((m27 o1 1) - (1 : Int32)) m27) (fun r48 m48 => fn_ix a2 5 (fun j51 => (if ((pw_st m48 (o1 + 5) j51 r48) 2 3) ≠ 0 then fn_bz (0 : Int32) (some ((0 : Int32), (pw_st m48 (o1 + 5) j51 r48))) else fn_bi (fn_X4_takeSign (59 : Int32) (pw_st m48 (o1 + 5) j51 r48)) (fun r62 m62 => (if r62 = 0 then fn_bz (0 : Int32) (some ((0 : Int32), m62)) else fn_bz (1 : Int32) (some ((1 : Int32), m62))))))) else fn_bz (0 : Int32) (some ((0 : Int32), m27)))))))
def fl_X4_readPulpits_2 (k : pw_Mem → Option (Int32 × pw_Mem)) (o1 : Nat) : Nat → Int32 → pw_Mem → Option (Int32 × pw_Mem)
  | 0, _, _ => none
  | n + 1, v2, m => (if (5 : Int32) ≤ v2 then k m else (if (m 2 2) ≠ (m 2 1) then fn_bi (fn_X4_kindHere m) (fun r21 m21 => (if r21 ≠ 0 then fn_bi (fn_X4_readPulpit o1 v2 (pw_st m21 2 2 ((m21 2 2) + (1 : Int32)))) (fun r48 m48 => (if r48 ≠ 0 then fn_ix v2 5 (fun j62 => fl_X4_readPulpits_2 k o1 n (v2 + 1) (pw_st (pw_st m48 (o1 + 3) j62 r21) o1 5 (v2 + (1 : Int32)))) else fn_bz (0 : Int32) (some ((0 : Int32), m48)))) else fn_bi (fn_X4_blame (1 : Int32) m21) (fun r31 m31 => fn_bz r31 (some (r31, m31))))) else fn_bz (1 : Int32) (some ((1 : Int32), m))))
def fn_X4_readPulpits (o1 : Nat) (μ : pw_Mem) : Option (Int32 × pw_Mem) :=
  fl_X4_readPulpits_2 (fun m76 => fn_jn0 (fun m106 => fn_bz (1 : Int32) (some ((1 : Int32), m106))) (fun k106 => (if (m76 2 2) = (m76 2 1) then k106 m76 else fn_bi (fn_X4_kindHere m76) (fun r89 m89 => fn_jn1 (fun x100_0 m100 => fn_bi (fn_X4_blame x100_0 m100) (fun r100 m100 => (if r100 = 0 then fn_bz (0 : Int32) (some ((0 : Int32), m100)) else k106 m100))) (fun k100 => (if r89 ≠ 0 then k100 (3 : Int32) m89 else k100 (1 : Int32) m89)))))) o1 1000 (0 : Int32) μ
def fl_X4_readStretches_2 (k : pw_Mem → Option (Int32 × pw_Mem)) (o1 : Nat) : Nat → Int32 → pw_Mem → Option (Int32 × pw_Mem)
  | 0, _, _ => none
  | n + 1, v2, m => (if (9 : Int32) ≤ v2 then k m else fn_jn0 (fun m24 => fn_bi (fn_X4_takeSign (114 : Int32) m24) (fun r27 m27 => (if r27 ≠ 0 then fn_bi (fn_X4_takeNumber (0 : Int32) (2 : Int32) m27) (fun r43 m43 => fn_ix v2 9 (fun j46 => (if ((pw_st m43 (o1 + 1) j46 r43) 2 3) ≠ 0 then fn_bz (0 : Int32) (some ((0 : Int32), (pw_st m43 (o1 + 1) j46 r43))) else fn_bi (fn_X4_takeSign (59 : Int32) (pw_st m43 (o1 + 1) j46 r43)) (fun r57 m57 => (if r57 ≠ 0 then fl_X4_readStretches_2 k o1 n (v2 + 1) (pw_st m57 o1 4 (v2 + (1 : Int32))) else fn_bz (0 : Int32) (some ((0 : Int32), m57))))))) else fn_bz (0 : Int32) (some ((0 : Int32), m27))))) (fun k24 => (if v2 < (3 : Int32) then k24 m else fn_bi (fn_X4_letterHere m) (fun r14 m14 => (if r14 = (114 : Int32) then k24 m14 else fn_bz (1 : Int32) (some ((1 : Int32), m14)))))))
def fn_X4_readStretches (o1 : Nat) (μ : pw_Mem) : Option (Int32 × pw_Mem) :=
  fl_X4_readStretches_2 (fun m78 => fn_bi (fn_X4_letterHere m78) (fun r79 m79 => fn_jn0 (fun m95 => fn_bz (1 : Int32) (some ((1 : Int32), m95))) (fun k95 => (if r79 ≠ (114 : Int32) then k95 m79 else fn_bi (fn_X4_blame (3 : Int32) m79) (fun r89 m89 => (if r89 = 0 then fn_bz (0 : Int32) (some ((0 : Int32), m89)) else k95 m89)))))) o1 1000 (0 : Int32) μ
def fn_X4_readInto (o1 : Nat) (μ : pw_Mem) : Option (Int32 × pw_Mem) :=
  fn_bv (fn_X2_begin o1 μ) (fun m1 => fn_bi (fn_X4_readLaw o1 (pw_st (pw_st m1 2 2 (0 : Int32)) 2 3 (0 : Int32))) (fun r16 m16 => (if r16 = 0 then fn_bz (0 : Int32) (some ((0 : Int32), m16)) else fn_bi (fn_X4_readStretches o1 m16) (fun r24 m24 => (if r24 = 0 then fn_bz (0 : Int32) (some ((0 : Int32), m24)) else fn_bi (fn_X4_readPulpits o1 m24) (fun r32 m32 => (if r32 = 0 then fn_bz (0 : Int32) (some ((0 : Int32), m32)) else fn_bz (1 : Int32) (some ((1 : Int32), m32)))))))))
def fn_X5_found (a1 : Int32) (μ : pw_Mem) : Option (Int32 × pw_Mem) :=
  some (((-1000010 : Int32) - a1), (pw_st μ 0 9 a1))
def fn_X5_foundNothing (a1 : Int32) (μ : pw_Mem) : Option (Int32 × pw_Mem) :=
  some (a1, (pw_st μ 0 9 (0 : Int32)))
def fn_X5_isRow (a0 : Int32) (μ : pw_Mem) : Option (Int32 × pw_Mem) :=
  (if a0 < 0 then fn_bz (0 : Int32) (some ((0 : Int32), μ)) else (if (8 : Int32) ≤ a0 then fn_bz (0 : Int32) (some ((0 : Int32), μ)) else fn_bz (1 : Int32) (some ((1 : Int32), μ))))
def fn_X5_row (a1 : Int32) (a2 : Int32) (a3 : Int32) (μ : pw_Mem) : Option (Int32 × pw_Mem) :=
  fn_bi (fn_X5_isRow a1 μ) (fun r1 m1 => (if r1 = 0 then some ((-1000001 : Int32), m1) else (if a2 < 0 then some ((-1000001 : Int32), m1) else (if (3 : Int32) ≤ a2 then some ((-1000001 : Int32), m1) else (if a3 ≤ (40 : Int32) then (if 0 ≤ a3 then fn_ix a1 8 (fun j40 => fn_bv (fn_X3_begin (24 + 2 * j40) a2 a3 m1) (fun m43 => fn_bi (fn_X5_foundNothing a3 m43) (fun r48 m48 => some (r48, m48)))) else fn_bi (fn_X5_found (4 : Int32) m1) (fun r31 m31 => some (r31, m31))) else some ((-1000001 : Int32), m1))))))
def fn_X5_set (a1 : Int32) (a2 : Int32) (a3 : Int32) (μ : pw_Mem) : Option (Int32 × pw_Mem) :=
  fn_bi (fn_X5_isRow a1 μ) (fun r1 m1 => (if r1 ≠ 0 then fn_ix a1 8 (fun j15 => (if (m1 (24 + 2 * j15) 1) = 0 then fn_bi (fn_X3_hasPlaces (24 + 2 * j15) a2 (1 : Int32) m1) (fun r36 m36 => (if r36 ≠ 0 then fn_bi (fn_X3_cut (24 + 2 * j15) a3 m36) (fun r57 m57 => fn_ix a2 40 (fun j60 => fn_ix a2 40 (fun j68 => fn_bi (fn_X5_foundNothing ((pw_st m57 ((24 + 2 * j15) + 1) j60 r57) ((24 + 2 * j15) + 1) j68) (pw_st m57 ((24 + 2 * j15) + 1) j60 r57)) (fun r69 m69 => some (r69, m69))))) else fn_bi (fn_X5_found (2 : Int32) m36) (fun r44 m44 => some (r44, m44)))) else fn_bi (fn_X5_found (1 : Int32) m1) (fun r28 m28 => some (r28, m28)))) else some ((-1000001 : Int32), m1)))
def fn_X5_copy (a1 : Int32) (a2 : Int32) (a3 : Int32) (a4 : Int32) (a5 : Int32) (μ : pw_Mem) : Option (Int32 × pw_Mem) :=
  fn_bi (fn_X5_isRow a1 μ) (fun r1 m1 => (if r1 = 0 then some ((-1000001 : Int32), m1) else fn_bi (fn_X5_isRow a3 m1) (fun r8 m8 => (if r8 ≠ 0 then fn_ix a1 8 (fun j22 => fn_ix a3 8 (fun j30 => (if (m8 (24 + 2 * j22) 1) ≠ 0 then fn_bi (fn_X5_found (1 : Int32) m8) (fun r51 m51 => some (r51, m51)) else (if (m8 (24 + 2 * j30) 1) = 0 then (if (m8 (24 + 2 * j22) 2) = (m8 (24 + 2 * j30) 2) then fn_bi (fn_X3_hasPlaces (24 + 2 * j22) a2 a5 m8) (fun r79 m79 => (if r79 = 0 then fn_bi (fn_X5_found (2 : Int32) m79) (fun r99 m99 => some (r99, m99)) else fn_bi (fn_X3_hasPlaces (24 + 2 * j30) a4 a5 m79) (fun r91 m91 => (if r91 ≠ 0 then fn_cp a2 a4 a5 40 40 (fn_bi (fn_X5_foundNothing a5 (va_up m91 ((24 + 2 * j30) + 1) (va_cpy (m91 ((24 + 2 * j22) + 1)) (m91 ((24 + 2 * j30) + 1)) (a2).toNatClampNeg (a4).toNatClampNeg (a5).toNatClampNeg))) (fun r124 m124 => some (r124, m124))) else fn_bi (fn_X5_found (2 : Int32) m91) (fun r99 m99 => some (r99, m99)))))) else fn_bi (fn_X5_found (5 : Int32) m8) (fun r70 m70 => some (r70, m70))) else fn_bi (fn_X5_found (1 : Int32) m8) (fun r51 m51 => some (r51, m51)))))) else some ((-1000001 : Int32), m8)))))
def fn_X5_drop (a1 : Int32) (μ : pw_Mem) : Option (Int32 × pw_Mem) :=
  fn_bi (fn_X5_isRow a1 μ) (fun r1 m1 => (if r1 ≠ 0 then fn_ix a1 8 (fun j15 => (if (m1 (24 + 2 * j15) 1) = 0 then fn_bz (1 : Int32) (fn_bi (fn_X5_foundNothing ((pw_st m1 (24 + 2 * j15) 1 (1 : Int32)) (24 + 2 * j15) 3) (pw_st m1 (24 + 2 * j15) 1 (1 : Int32))) (fun r40 m40 => some (r40, m40))) else fn_bi (fn_X5_found (1 : Int32) m1) (fun r26 m26 => some (r26, m26)))) else some ((-1000001 : Int32), m1)))
def fn_X5_feed (a1 : Int32) (μ : pw_Mem) : Option (Int32 × pw_Mem) :=
  (if a1 < 0 then some ((-1000001 : Int32), μ) else (if a1 ≤ (255 : Int32) then (if (μ 2 1) < (90 : Int32) then fn_bv (fn_X4_add a1 μ) (fun m34 => some ((m34 2 1), m34)) else some ((-1000003 : Int32), μ)) else some ((-1000001 : Int32), μ)))
def fn_X5_road  (μ : pw_Mem) : Option (Int32 × pw_Mem) :=
  fn_bi (fn_X4_readInto 11 μ) (fun r8 m8 => (if r8 ≠ 0 then fn_bv (fn_X2_take 4 11 (pw_st m8 2 1 (0 : Int32))) (fun m54 => some (((pw_st m54 20 1 (0 : Int32)) 4 5), (pw_st m54 20 1 (0 : Int32)))) else some (((-1000100 : Int32) - ((pw_st (pw_st m8 2 1 (0 : Int32)) 0 8 ((pw_st m8 2 1 (0 : Int32)) 2 3)) 2 2)), (pw_st (pw_st m8 2 1 (0 : Int32)) 0 8 ((pw_st m8 2 1 (0 : Int32)) 2 3)))))
def fn_X5_fault  (μ : pw_Mem) : Option (Int32 × pw_Mem) :=
  some ((μ 0 8), μ)
def fl_X5_hours_47 (k : pw_Mem → Option (Int32 × pw_Mem)) (w1 : Int32) : Nat → Int32 → pw_Mem → Option (Int32 × pw_Mem)
  | 0, _, _ => none
  | n + 1, v2, m => (if w1 ≤ v2 then k m else fn_bv (fn_X0_keep 4 m) (fun m60 => fn_bv (fn_X2_goHour 4 m60) (fun m67 => fl_X5_hours_47 k w1 n (v2 + 1) m67)))
def fn_X5_hours (a1 : Int32) (μ : pw_Mem) : Option (Int32 × pw_Mem) :=
  (if (μ 4 0) ≠ 0 then (if a1 < (1 : Int32) then some ((-1000001 : Int32), μ) else (if a1 ≤ (24 : Int32) then (if ((μ 4 3) + a1) ≤ (9999 : Int32) then fl_X5_hours_47 (fun m76 => fn_bi (fn_X2_wholeGates 4 m76) (fun r80 m80 => some (r80, m80))) a1 1000 (0 : Int32) μ else some ((-1000003 : Int32), μ)) else some ((-1000001 : Int32), μ))) else some ((-1000002 : Int32), μ))
def fn_X5_isPulpit (a1 : Int32) (μ : pw_Mem) : Option (Int32 × pw_Mem) :=
  (if a1 < 0 then fn_bz (0 : Int32) (some ((0 : Int32), μ)) else (if (μ 4 5) ≤ a1 then fn_bz (0 : Int32) (some ((0 : Int32), μ)) else fn_bz (1 : Int32) (some ((1 : Int32), μ))))
def fn_X5_isStretch (a1 : Int32) (μ : pw_Mem) : Option (Int32 × pw_Mem) :=
  (if a1 < 0 then fn_bz (0 : Int32) (some ((0 : Int32), μ)) else (if (μ 4 4) ≤ a1 then fn_bz (0 : Int32) (some ((0 : Int32), μ)) else fn_bz (1 : Int32) (some ((1 : Int32), μ))))
def fn_X5_put (a1 : Int32) (a2 : Int32) (μ : pw_Mem) : Option (Int32 × pw_Mem) :=
  fn_bi (fn_X5_isPulpit a1 μ) (fun r2 m2 => (if r2 = 0 then some ((-1000001 : Int32), m2) else fn_bi (fn_X5_isStretch a2 m2) (fun r10 m10 => (if r10 ≠ 0 then fn_ix a1 5 (fun j27 => (if (m10 (4 + 4) j27) ≠ a2 then fn_bv (fn_X0_keep 4 m10) (fun m45 => fn_ix a1 5 (fun j57 => some ((m10 (4 + 4) j27), (pw_st m45 (4 + 4) j57 a2)))) else some ((-1000002 : Int32), m10))) else some ((-1000001 : Int32), m10)))))
def fn_X5_isWord (a1 : Int32) (μ : pw_Mem) : Option (Int32 × pw_Mem) :=
  (if a1 < 0 then fn_bz (0 : Int32) (some ((0 : Int32), μ)) else (if (μ 4 1) ≤ a1 then fn_bz (0 : Int32) (some ((0 : Int32), μ)) else fn_bz (1 : Int32) (some ((1 : Int32), μ))))
def fn_X5_skip (a1 : Int32) (a2 : Int32) (μ : pw_Mem) : Option (Int32 × pw_Mem) :=
  fn_bi (fn_X5_isPulpit a1 μ) (fun r2 m2 => (if r2 = 0 then some ((-1000001 : Int32), m2) else fn_bi (fn_X5_isWord a2 m2) (fun r10 m10 => (if r10 ≠ 0 then fn_ix a1 5 (fun j27 => fn_bv (fn_X0_keep 4 m10) (fun m37 => fn_ix a1 5 (fun j49 => some ((m10 (4 + 5) j27), (pw_st m37 (4 + 5) j49 a2))))) else some ((-1000001 : Int32), m10)))))
def fn_X5_forget (a1 : Int32) (μ : pw_Mem) : Option (Int32 × pw_Mem) :=
  fn_bi (fn_X5_isStretch a1 μ) (fun r2 m2 => (if r2 ≠ 0 then fn_ix a1 9 (fun j19 => fn_bi (fn_J6_bitCount_0f7a4 (m2 (4 + 2) j19) m2) (fun r20 m20 => (if r20 ≠ 0 then fn_bv (fn_X0_keep 4 m20) (fun m39 => fn_ix a1 9 (fun j51 => some (r20, (pw_st m39 (4 + 2) j51 (0 : Int32))))) else some ((-1000002 : Int32), m20)))) else some ((-1000001 : Int32), m2)))
def fn_X5_undo  (μ : pw_Mem) : Option (Int32 × pw_Mem) :=
  (if (μ 20 1) ≠ 0 then fn_bv (fn_X0_giveBack 4 μ) (fun m21 => some ((m21 20 1), m21)) else some ((-1000002 : Int32), μ))
def fn_X5_pulpit (a1 : Int32) (a2 : Int32) (μ : pw_Mem) : Option (Int32 × pw_Mem) :=
  fn_bi (fn_X5_isPulpit a1 μ) (fun r2 m2 => (if r2 ≠ 0 then (if a2 = 0 then fn_ix a1 5 (fun j52 => some ((m2 (4 + 4) j52), m2)) else (if a2 = 1 then fn_ix a1 5 (fun j62 => some ((m2 (4 + 5) j62), m2)) else (if a2 = 2 then fn_bi (fn_X2_councils 4 m2) (fun r68 m68 => some (((r68 >>> (a1 &&& 31)) &&& (1 : Int32)), m68)) else (if a2 = 3 then fn_bi (fn_X2_sayings 4 a1 m2) (fun r81 m81 => some (r81, m81)) else some ((-1000001 : Int32), m2))))) else some ((-1000001 : Int32), m2)))
def fn_X5_stretch (a1 : Int32) (a2 : Int32) (μ : pw_Mem) : Option (Int32 × pw_Mem) :=
  fn_bi (fn_X5_isStretch a1 μ) (fun r2 m2 => (if r2 ≠ 0 then (if a2 = 0 then fn_ix a1 9 (fun j48 => some ((m2 (4 + 1) j48), m2)) else (if a2 = 1 then fn_ix a1 9 (fun j58 => some ((m2 (4 + 2) j58), m2)) else (if a2 = 2 then fn_bi (fn_X2_pulpitsOn 4 a1 m2) (fun r65 m65 => some (r65, m65)) else some ((-1000001 : Int32), m2)))) else some ((-1000001 : Int32), m2)))
def fn_X5_foretell (a1 : Int32) (μ : pw_Mem) : Option (pw_Mem) :=
  fn_bv (fn_X2_take 11 4 μ) (fun m8 => fn_bv (fn_X2_goHours 11 a1 m8) (fun m16 => some m16))
def fn_X5_isWithin (a0 : Int32) (a1 : Int32) (a2 : Int32) (μ : pw_Mem) : Option (Int32 × pw_Mem) :=
  (if a0 < a1 then fn_bz (0 : Int32) (some ((0 : Int32), μ)) else (if a2 < a0 then fn_bz (0 : Int32) (some ((0 : Int32), μ)) else fn_bz (1 : Int32) (some ((1 : Int32), μ))))
def fn_X5_ahead (a1 : Int32) (a2 : Int32) (a3 : Int32) (μ : pw_Mem) : Option (Int32 × pw_Mem) :=
  fn_bi (fn_X5_isPulpit a1 μ) (fun r2 m2 => (if r2 = 0 then some ((-1000001 : Int32), m2) else fn_bi (fn_X5_isWithin a2 (0 : Int32) (60 : Int32) m2) (fun r12 m12 => (if r12 = 0 then some ((-1000001 : Int32), m12) else fn_bi (fn_X5_isWithin a3 (0 : Int32) (1 : Int32) m12) (fun r21 m21 => (if r21 ≠ 0 then fn_bv (fn_X5_foretell a2 m21) (fun m32 => (if a3 ≠ 0 then fn_ix a1 5 (fun j59 => some ((m32 (11 + 5) j59), m32)) else fn_ix a1 5 (fun j47 => some ((m32 (11 + 4) j47), m32)))) else some ((-1000001 : Int32), m21)))))))
def fn_X5_heard (a1 : Int32) (a2 : Int32) (μ : pw_Mem) : Option (Int32 × pw_Mem) :=
  fn_bi (fn_X5_isStretch a1 μ) (fun r2 m2 => (if r2 = 0 then some ((-1000001 : Int32), m2) else fn_bi (fn_X5_isWithin a2 (0 : Int32) (60 : Int32) m2) (fun r12 m12 => (if r12 ≠ 0 then fn_bv (fn_X5_foretell a2 m12) (fun m23 => fn_ix a1 9 (fun j34 => some ((m23 (11 + 2) j34), m23))) else some ((-1000001 : Int32), m12)))))
def fl_X5_hoursToWhole_7 (k : pw_Mem → Option (Int32 × pw_Mem)) (w1 : Int32) : Nat → Int32 → pw_Mem → Option (Int32 × pw_Mem)
  | 0, _, _ => none
  | n + 1, v2, m => (if (60 : Int32) < v2 then k m else fn_bi (fn_X2_wholeGates 11 m) (fun r17 m17 => (if (r17 &&& w1) = 0 then fn_bv (fn_X2_goHour 11 m17) (fun m31 => fl_X5_hoursToWhole_7 k w1 n (v2 + 1) m31) else some (v2, m17))))
def fn_X5_hoursToWhole (a1 : Int32) (μ : pw_Mem) : Option (Int32 × pw_Mem) :=
  fn_bv (fn_X5_foretell (0 : Int32) μ) (fun m2 => fl_X5_hoursToWhole_7 (fun m40 => some ((-1000000 : Int32), m40)) a1 1000 (0 : Int32) m2)
def fn_X5_whole (a1 : Int32) (μ : pw_Mem) : Option (Int32 × pw_Mem) :=
  fn_bi (fn_X5_isStretch a1 μ) (fun r2 m2 => (if r2 ≠ 0 then fn_bi (fn_X5_hoursToWhole ((1 : Int32) <<< (a1 &&& 31)) m2) (fun r15 m15 => some (r15, m15)) else some ((-1000001 : Int32), m2)))
def fl_X5_leastOf_2 (k : pw_Mem → Option (Int32 × pw_Mem)) (w0 : Int32) : Nat → Int32 → pw_Mem → Option (Int32 × pw_Mem)
  | 0, _, _ => none
  | n + 1, v1, m => (if (9 : Int32) ≤ v1 then k m else (if ((w0 >>> (v1 &&& 31)) &&& (1 : Int32)) = 0 then fl_X5_leastOf_2 k w0 n (v1 + 1) m else some (v1, m)))
def fn_X5_leastOf (a0 : Int32) (μ : pw_Mem) : Option (Int32 × pw_Mem) :=
  fl_X5_leastOf_2 (fun m24 => some ((-1000000 : Int32), m24)) a0 1000 (0 : Int32) μ
def fn_X5_first (a1 : Int32) (μ : pw_Mem) : Option (Int32 × pw_Mem) :=
  (if (μ 4 0) ≠ 0 then fn_bi (fn_X5_isWithin a1 (0 : Int32) (1 : Int32) μ) (fun r16 m16 => (if r16 ≠ 0 then fn_bi (fn_X5_hoursToWhole (((1 : Int32) <<< ((m16 4 4) &&& 31)) - (1 : Int32)) m16) (fun r37 m37 => (if r37 = (-1000000 : Int32) then some (r37, m37) else (if a1 ≠ (1 : Int32) then fn_bi (fn_X2_wholeGates 11 m37) (fun r58 m58 => fn_bi (fn_X5_leastOf r58 m58) (fun r61 m61 => some (r61, m61))) else some (r37, m37)))) else some ((-1000001 : Int32), m16))) else some ((-1000002 : Int32), μ))
def fn_X5_left (a1 : Int32) (μ : pw_Mem) : Option (Int32 × pw_Mem) :=
  (if (μ 4 0) ≠ 0 then fn_bi (fn_X5_isWithin a1 (0 : Int32) (60 : Int32) μ) (fun r17 m17 => (if r17 ≠ 0 then fn_bv (fn_X5_foretell a1 m17) (fun m28 => fn_bi (fn_X2_allWords 11 m28) (fun r35 m35 => fn_bi (fn_X2_heardAtAny 11 (((1 : Int32) <<< ((m35 11 4) &&& 31)) - (1 : Int32)) m35) (fun r53 m53 => some ((r35 &&& (r53 ^^^ (-1 : Int32))), m53)))) else some ((-1000001 : Int32), m17))) else some ((-1000002 : Int32), μ))
def fl_X5_meet_31 (k : pw_Mem → Option (Int32 × pw_Mem)) (w1 : Int32) (w2 : Int32) : Nat → Int32 → pw_Mem → Option (Int32 × pw_Mem)
  | 0, _, _ => none
  | n + 1, v3, m => (if (60 : Int32) < v3 then k m else fn_ix w1 5 (fun j45 => fn_ix w2 5 (fun j54 => (if (m (11 + 4) j45) ≠ (m (11 + 4) j54) then fn_bv (fn_X2_goHour 11 m) (fun m64 => fl_X5_meet_31 k w1 w2 n (v3 + 1) m64) else some (v3, m)))))
def fn_X5_meet (a1 : Int32) (a2 : Int32) (μ : pw_Mem) : Option (Int32 × pw_Mem) :=
  fn_bi (fn_X5_isPulpit a1 μ) (fun r2 m2 => (if r2 = 0 then some ((-1000001 : Int32), m2) else fn_bi (fn_X5_isPulpit a2 m2) (fun r10 m10 => (if r10 = 0 then some ((-1000001 : Int32), m10) else (if a1 ≠ a2 then fn_bv (fn_X5_foretell (0 : Int32) m10) (fun m26 => fl_X5_meet_31 (fun m73 => some ((-1000000 : Int32), m73)) a1 a2 1000 (0 : Int32) m26) else some ((-1000001 : Int32), m10))))))
def fl_X5_round_20 (k : pw_Mem → Option (Int32 × pw_Mem))  : Nat → Int32 → pw_Mem → Option (Int32 × pw_Mem)
  | 0, _, _ => none
  | n + 1, v1, m => (if (200 : Int32) < v1 then k m else fn_bv (fn_X2_goHour 11 m) (fun m31 => fn_bi (fn_X2_hasPulpitsAs 11 4 m31) (fun r42 m42 => (if r42 = 0 then fl_X5_round_20 k  n (v1 + 1) m42 else some (v1, m42)))))
def fn_X5_round  (μ : pw_Mem) : Option (Int32 × pw_Mem) :=
  (if (μ 4 0) ≠ 0 then fn_bv (fn_X5_foretell (0 : Int32) μ) (fun m15 => fl_X5_round_20 (fun m56 => some ((-1000000 : Int32), m56))  1000 (1 : Int32) m15) else some ((-1000002 : Int32), μ))
def fl_X5_best_48 (k : Int32 → Int32 → pw_Mem → Option (Int32 × pw_Mem)) (w1 : Int32) (w2 : Int32) (w3 : Int32) (w4 : Int32) : Nat → Int32 → Int32 → Int32 → pw_Mem → Option (Int32 × pw_Mem)
  | 0, _, _, _, _ => none
  | n + 1, v5, v6, v7, m => (if (m 4 4) ≤ v7 then k v5 v6 m else fn_bv (fn_X2_take 11 4 m) (fun m68 => fn_ix w1 5 (fun j81 => fn_bv (fn_X2_goHours 11 w3 (pw_st m68 (11 + 4) j81 v7)) (fun m87 => fn_ix w2 9 (fun j98 => fn_bi (fn_J6_bitCount_0f7a4 (m87 (11 + 2) j98) m87) (fun r99 m99 => fn_jn2 (fun x119_0 x119_1 m119 => fl_X5_best_48 k w1 w2 w3 w4 n x119_0 x119_1 (v7 + 1) m119) (fun k119 => (if r99 ≤ v5 then k119 v5 v6 m99 else k119 r99 v7 m99))))))))
def fn_X5_best (a1 : Int32) (a2 : Int32) (a3 : Int32) (a4 : Int32) (μ : pw_Mem) : Option (Int32 × pw_Mem) :=
  fn_bi (fn_X5_isPulpit a1 μ) (fun r2 m2 => (if r2 = 0 then some ((-1000001 : Int32), m2) else fn_bi (fn_X5_isStretch a2 m2) (fun r10 m10 => (if r10 = 0 then some ((-1000001 : Int32), m10) else fn_bi (fn_X5_isWithin a3 (1 : Int32) (30 : Int32) m10) (fun r20 m20 => (if r20 = 0 then some ((-1000001 : Int32), m20) else fn_bi (fn_X5_isWithin a4 (0 : Int32) (1 : Int32) m20) (fun r30 m30 => (if r30 ≠ 0 then fl_X5_best_48 (fun y48_5 y48_6 m125 => (if a4 ≠ 0 then some (y48_5, m125) else some (y48_6, m125))) a1 a2 a3 a4 1000 (-1 : Int32) (0 : Int32) (0 : Int32) m30 else some ((-1000001 : Int32), m30)))))))))
def fl_X5_piece_34 (k : Int32 → Int32 → pw_Mem → Option (Int32 × pw_Mem)) (w1 : Int32) : Nat → Int32 → Int32 → Int32 → pw_Mem → Option (Int32 × pw_Mem)
  | 0, _, _, _, _ => none
  | n + 1, v2, v3, v4, m => (if ((1 : Int32) <<< ((m 4 4) &&& 31)) ≤ v4 then k v2 v3 m else fn_bi (fn_J6_bitCount_0f7a4 v4 m) (fun r50 m50 => fn_jn2 (fun x92_0 x92_1 m92 => fl_X5_piece_34 k w1 n x92_0 x92_1 (v4 + 1) m92) (fun k92 => fn_jn0 (fun m67 => fn_bi (fn_X2_heardAtAny 4 v4 m67) (fun r73 m73 => fn_bi (fn_X2_allWords 4 m73) (fun r80 m80 => (if r73 ≠ r80 then k92 v2 v3 m80 else k92 r50 v4 m80)))) (fun k67 => (if v2 = (-1000000 : Int32) then k67 m50 else (if v2 ≤ r50 then k92 v2 v3 m50 else k67 m50))))))
def fn_X5_piece (a1 : Int32) (μ : pw_Mem) : Option (Int32 × pw_Mem) :=
  (if (μ 4 0) ≠ 0 then fn_bi (fn_X5_isWithin a1 (0 : Int32) (1 : Int32) μ) (fun r16 m16 => (if r16 ≠ 0 then fl_X5_piece_34 (fun y34_2 y34_3 m98 => (if a1 ≠ 0 then some (y34_3, m98) else some (y34_2, m98))) a1 1000 (-1000000 : Int32) (-1000000 : Int32) (1 : Int32) m16 else some ((-1000001 : Int32), m16))) else some ((-1000002 : Int32), μ))
def fl_X5_foretellSayings_21 (k : pw_Mem → Option (pw_Mem)) (w1 : Int32) (w2 : Int32) : Nat → Int32 → pw_Mem → Option (pw_Mem)
  | 0, _, _ => none
  | n + 1, v3, m => (if (m 11 4) ≤ v3 then k m else fn_ix v3 9 (fun j50 => fn_ix ((w2 * (9 : Int32)) + v3) 72 (fun j51 => fl_X5_foretellSayings_21 k w1 w2 n (v3 + 1) (pw_st m 18 j51 (m (11 + 6) j50)))))
def fl_X5_foretellSayings_7 (k : pw_Mem → Option (pw_Mem)) (w1 : Int32) : Nat → Int32 → pw_Mem → Option (pw_Mem)
  | 0, _, _ => none
  | n + 1, v2, m => (if w1 ≤ v2 then k m else fn_bv (fn_X2_goHour 11 m) (fun m16 => fl_X5_foretellSayings_21 (fun m58 => fl_X5_foretellSayings_7 k w1 n (v2 + 1) m58) w1 v2 1000 (0 : Int32) m16))
def fn_X5_foretellSayings (a1 : Int32) (μ : pw_Mem) : Option (pw_Mem) :=
  fn_bv (fn_X5_foretell (0 : Int32) μ) (fun m2 => fl_X5_foretellSayings_7 (fun m64 => some m64) a1 1000 (0 : Int32) m2)
def fl_X5_heardOnWay_9 (k : Int32 → pw_Mem → Option (Int32 × pw_Mem)) (w2 : Int32) (w3 : Int32) : Nat → Int32 → Int32 → Int32 → pw_Mem → Option (Int32 × pw_Mem)
  | 0, _, _, _, _ => none
  | n + 1, v4, v5, v6, m => (if w2 ≤ v6 then k v5 m else fn_jn1 (fun x35_0 m35 => fn_ix ((v6 * (9 : Int32)) + x35_0) 72 (fun j49 => fl_X5_heardOnWay_9 k w2 w3 n x35_0 (v5 ||| (m35 18 j49)) (v6 + 1) m35)) (fun k35 => (if ((w3 >>> (v6 &&& 31)) &&& (1 : Int32)) = 0 then k35 v4 m else fn_bi (fn_X2_nextOf 11 v4 m) (fun r30 m30 => k35 r30 m30))))
def fn_X5_heardOnWay (a1 : Int32) (a2 : Int32) (a3 : Int32) (μ : pw_Mem) : Option (Int32 × pw_Mem) :=
  fl_X5_heardOnWay_9 (fun y9_5 m59 => some (y9_5, m59)) a2 a3 1000 a1 (0 : Int32) (0 : Int32) μ
def fl_X5_walk_44 (k : Int32 → Int32 → pw_Mem → Option (Int32 × pw_Mem)) (w1 : Int32) (w2 : Int32) (w3 : Int32) : Nat → Int32 → Int32 → Int32 → pw_Mem → Option (Int32 × pw_Mem)
  | 0, _, _, _, _ => none
  | n + 1, v4, v5, v6, m => (if ((1 : Int32) <<< (w2 &&& 31)) ≤ v6 then k v4 v5 m else fn_bi (fn_X5_heardOnWay w1 w2 v6 m) (fun r57 m57 => fn_bi (fn_J6_bitCount_0f7a4 r57 m57) (fun r60 m60 => fn_jn2 (fun x80_0 x80_1 m80 => fl_X5_walk_44 k w1 w2 w3 n x80_0 x80_1 (v6 + 1) m80) (fun k80 => (if r60 ≤ v4 then k80 v4 v5 m60 else k80 r60 v6 m60)))))
def fn_X5_walk (a1 : Int32) (a2 : Int32) (a3 : Int32) (μ : pw_Mem) : Option (Int32 × pw_Mem) :=
  fn_bi (fn_X5_isStretch a1 μ) (fun r2 m2 => (if r2 = 0 then some ((-1000001 : Int32), m2) else fn_bi (fn_X5_isWithin a2 (1 : Int32) (8 : Int32) m2) (fun r12 m12 => (if r12 = 0 then some ((-1000001 : Int32), m12) else fn_bi (fn_X5_isWithin a3 (0 : Int32) (1 : Int32) m12) (fun r21 m21 => (if r21 ≠ 0 then fn_bv (fn_X5_foretellSayings a2 m21) (fun m32 => fl_X5_walk_44 (fun y44_4 y44_5 m86 => (if a3 ≠ 0 then some (y44_5, m86) else some (y44_4, m86))) a1 a2 a3 1000 (-1 : Int32) (0 : Int32) (0 : Int32) m32) else some ((-1000001 : Int32), m21)))))))
def fl_X5_goesAsTold_3 (k : pw_Mem → Option (Int32 × pw_Mem)) (w1 : Int32) (o2 : Nat) (w3 : Int32) (w4 : Int32) : Nat → Int32 → pw_Mem → Option (Int32 × pw_Mem)
  | 0, _, _ => none
  | n + 1, v5, m => (if w4 ≤ v5 then k m else fn_bv (fn_X2_goHour 11 m) (fun m14 => fn_ix w1 5 (fun j25 => fn_ix (w3 + v5) 40 (fun j34 => (if (m14 (11 + 4) j25) = (m14 (o2 + 1) j34) then fl_X5_goesAsTold_3 k w1 o2 w3 w4 n (v5 + 1) m14 else fn_bz (0 : Int32) (some ((0 : Int32), m14)))))))
def fn_X5_goesAsTold (a1 : Int32) (o2 : Nat) (a3 : Int32) (a4 : Int32) (μ : pw_Mem) : Option (Int32 × pw_Mem) :=
  fl_X5_goesAsTold_3 (fun m46 => fn_bz (1 : Int32) (some ((1 : Int32), m46))) a1 o2 a3 a4 1000 (0 : Int32) μ
def fn_X5_guessEnd (a1 : Int32) (μ : pw_Mem) : Option (Int32 × pw_Mem) :=
  (if a1 ≠ 0 then (if a1 ≠ (1 : Int32) then some ((μ 4 1), μ) else some ((μ 4 4), μ)) else some ((6 : Int32), μ))
def fn_X5_suppose (a1 : Int32) (a2 : Int32) (a3 : Int32) (μ : pw_Mem) : Option (pw_Mem) :=
  (if a2 ≠ 0 then (if a2 ≠ (1 : Int32) then (if a2 ≠ (2 : Int32) then fn_ix a1 5 (fun j60 => some (pw_st μ (11 + 5) j60 a3)) else some (pw_st μ 11 2 a3)) else fn_ix a1 5 (fun j31 => some (pw_st μ (11 + 4) j31 a3))) else fn_ix a1 5 (fun j13 => some (pw_st μ (11 + 3) j13 a3)))
def fl_X5_fits_101 (k : Int32 → pw_Mem → Option (Int32 × pw_Mem)) (w1 : Int32) (w3 : Int32) (w4 : Int32) (w5 : Int32) (o6 : Nat) (w8 : Int32) : Nat → Int32 → Int32 → pw_Mem → Option (Int32 × pw_Mem)
  | 0, _, _, _ => none
  | n + 1, v7, v9, m => (if w8 ≤ v9 then k v7 m else fn_bv (fn_X2_take 11 4 m) (fun m116 => fn_bv (fn_X5_suppose w1 w5 v9 m116) (fun m125 => fn_bi (fn_X5_goesAsTold w1 o6 w3 w4 m125) (fun r135 m135 => fn_jn1 (fun x150_0 m150 => fl_X5_fits_101 k w1 w3 w4 w5 o6 w8 n x150_0 (v9 + 1) m150) (fun k150 => (if r135 = 0 then k150 v7 m135 else k150 (v7 ||| ((1 : Int32) <<< (v9 &&& 31))) m135))))))
def fn_X5_fits (a1 : Int32) (a2 : Int32) (a3 : Int32) (a4 : Int32) (a5 : Int32) (μ : pw_Mem) : Option (Int32 × pw_Mem) :=
  fn_bi (fn_X5_isPulpit a1 μ) (fun r2 m2 => (if r2 = 0 then some ((-1000001 : Int32), m2) else fn_bi (fn_X5_isRow a2 m2) (fun r9 m9 => (if r9 = 0 then some ((-1000001 : Int32), m9) else fn_bi (fn_X5_isWithin a4 (1 : Int32) (12 : Int32) m9) (fun r20 m20 => (if r20 = 0 then some ((-1000001 : Int32), m20) else fn_bi (fn_X5_isWithin a5 (0 : Int32) (3 : Int32) m20) (fun r30 m30 => (if r30 ≠ 0 then fn_ix a2 8 (fun j44 => (if (m30 (24 + 2 * j44) 1) = 0 then fn_bi (fn_X3_hasPlaces (24 + 2 * j44) a3 a4 m30) (fun r66 m66 => (if r66 ≠ 0 then fn_bi (fn_X5_guessEnd a5 m66) (fun r84 m84 => fn_jn1 (fun x99_0 m99 => fl_X5_fits_101 (fun y101_7 m156 => fn_bi (fn_X5_foundNothing y101_7 m156) (fun r159 m159 => some (r159, m159))) a1 a3 a4 a5 (24 + 2 * j44) r84 1000 (0 : Int32) x99_0 m99) (fun k99 => (if a5 ≠ 0 then k99 (0 : Int32) m84 else k99 (1 : Int32) m84))) else fn_bi (fn_X5_found (2 : Int32) m66) (fun r74 m74 => some (r74, m74)))) else fn_bi (fn_X5_found (1 : Int32) m30) (fun r57 m57 => some (r57, m57)))) else some ((-1000001 : Int32), m30)))))))))
def fl_X5_commonDivisor_3 (k : pw_Mem → Option (Int32 × pw_Mem)) (w0 : Int32) (w1 : Int32) : Nat → Int32 → pw_Mem → Option (Int32 × pw_Mem)
  | 0, _, _ => none
  | n + 1, v2, m => (if v2 ≤ (1 : Int32) then k m else fn_nz v2 (fn_jn0 (fun m22 => fl_X5_commonDivisor_3 k w0 w1 n (v2 + (-1)) m22) (fun k22 => (if (w0 - w0 / v2 * v2) ≠ 0 then k22 m else fn_nz v2 ((if (w1 - w1 / v2 * v2) ≠ 0 then k22 m else some (v2, m)))))))
def fn_X5_commonDivisor (a0 : Int32) (a1 : Int32) (μ : pw_Mem) : Option (Int32 × pw_Mem) :=
  fl_X5_commonDivisor_3 (fun m28 => some ((1 : Int32), m28)) a0 a1 1000 (10 : Int32) μ
def fl_X5_tenthsOfHearing_31 (k : pw_Mem → Option (Int32 × pw_Mem)) (w1 : Int32) (w2 : Int32) (w3 : Int32) (w4 : Int32) : Nat → Int32 → pw_Mem → Option (Int32 × pw_Mem)
  | 0, _, _ => none
  | n + 1, v5, m => (if (m 4 5) ≤ v5 then k m else fn_ix v5 5 (fun j52 => fn_jn1 (fun x72_0 m72 => fn_jn0 (fun m100 => fl_X5_tenthsOfHearing_31 k w1 w2 w3 w4 n (v5 + 1) m100) (fun k100 => (if x72_0 = 0 then k100 m72 else fn_bi (fn_X2_sayings 4 v5 m72) (fun r85 m85 => (if ((r85 >>> (w2 &&& 31)) &&& (1 : Int32)) = 0 then k100 m85 else some (((10 : Int32) - w3), m85)))))) (fun k72 => fn_jn0 (fun m71 => k72 (0 : Int32) m71) (fun k71 => (if (m (4 + 4) j52) ≠ w1 then k71 m else (if ((w4 >>> (v5 &&& 31)) &&& (1 : Int32)) ≠ 0 then k71 m else k72 (1 : Int32) m))))))
def fn_X5_tenthsOfHearing (a1 : Int32) (a2 : Int32) (a3 : Int32) (μ : pw_Mem) : Option (Int32 × pw_Mem) :=
  fn_ix a1 9 (fun j8 => (if (((μ (4 + 2) j8) >>> (a2 &&& 31)) &&& (1 : Int32)) = 0 then fn_bi (fn_X2_councils 4 μ) (fun r23 m23 => fl_X5_tenthsOfHearing_31 (fun m106 => some ((0 : Int32), m106)) a1 a2 a3 r23 1000 (0 : Int32) m23) else some ((10 : Int32), μ)))
def fn_X5_axles (a1 : Int32) (a2 : Int32) (a3 : Int32) (a4 : Int32) (μ : pw_Mem) : Option (Int32 × pw_Mem) :=
  fn_bi (fn_X5_isStretch a1 μ) (fun r2 m2 => (if r2 = 0 then some ((-1000001 : Int32), m2) else fn_bi (fn_X5_isWord a2 m2) (fun r10 m10 => (if r10 = 0 then some ((-1000001 : Int32), m10) else fn_bi (fn_X5_isWithin a3 (0 : Int32) (10 : Int32) m10) (fun r20 m20 => (if r20 = 0 then some ((-1000001 : Int32), m20) else fn_bi (fn_X5_isWithin a4 (0 : Int32) (1 : Int32) m20) (fun r30 m30 => (if r30 ≠ 0 then fn_bi (fn_X5_tenthsOfHearing a1 a2 a3 m30) (fun r43 m43 => fn_bi (fn_X5_commonDivisor r43 (10 : Int32) m43) (fun r52 m52 => (if a4 ≠ 0 then fn_nz r52 (some (((10 : Int32) / r52), m52)) else fn_nz r52 (some ((r43 / r52), m52))))) else some ((-1000001 : Int32), m30)))))))))
def fn_X5_putByDraw (a1 : Int64) (μ : pw_Mem) : Option (pw_Mem) :=
  fn_nzl (3 : Int64) ((if (lg_cmp (a1 - a1 / (3 : Int64) * (3 : Int64)) (0 : Int64)) ≠ 0 then some μ else (if (μ 11 5) ≤ 0 then some μ else (if (μ 11 4) ≤ 0 then some μ else fn_nzl ((μ 11 5)).toInt64 (fn_nzl ((μ 11 4)).toInt64 (fn_ix ((a1 - a1 / ((μ 11 5)).toInt64 * ((μ 11 5)).toInt64)).toInt32 5 (fun j61 => some (pw_st μ (11 + 4) j61 ((a1 - a1 / ((μ 11 4)).toInt64 * ((μ 11 4)).toInt64)).toInt32))))))))
def fl_X5_drawn_57 (k : pw_Mem → Option (Int32 × pw_Mem)) (w1 : Int32) (w3 : Int32) : Nat → Int64 → Int32 → pw_Mem → Option (Int32 × pw_Mem)
  | 0, _, _, _ => none
  | n + 1, v4, v6, m => (if w1 ≤ v6 then k m else fn_nzl (2147483647 : Int64) (fn_bv (fn_X5_putByDraw ((v4 * (16807 : Int64)) - (v4 * (16807 : Int64)) / (2147483647 : Int64) * (2147483647 : Int64)) m) (fun m78 => fn_bv (fn_X2_goHour 11 m78) (fun m85 => fl_X5_drawn_57 k w1 w3 n ((v4 * (16807 : Int64)) - (v4 * (16807 : Int64)) / (2147483647 : Int64) * (2147483647 : Int64)) (v6 + 1) m85))))
def fn_X5_drawn (a1 : Int32) (a2 : Int32) (a3 : Int32) (μ : pw_Mem) : Option (Int32 × pw_Mem) :=
  (if (μ 4 0) ≠ 0 then fn_bi (fn_X5_isWithin a1 (0 : Int32) (60 : Int32) μ) (fun r17 m17 => (if r17 = 0 then some ((-1000001 : Int32), m17) else fn_bi (fn_X5_isWithin a2 (1 : Int32) (999999 : Int32) m17) (fun r27 m27 => (if r27 = 0 then some ((-1000001 : Int32), m27) else fn_bi (fn_X5_isWithin a3 (0 : Int32) (1 : Int32) m27) (fun r36 m36 => (if r36 ≠ 0 then fn_bv (fn_X5_foretell (0 : Int32) m36) (fun m47 => fl_X5_drawn_57 (fun m94 => (if a3 ≠ 0 then fn_bi (fn_X2_wholeGates 11 m94) (fun r112 m112 => fn_bi (fn_J6_bitCount_0f7a4 r112 m112) (fun r115 m115 => some (r115, m115))) else fn_bi (fn_X2_wordsHeard 11 m94) (fun r102 m102 => some (r102, m102)))) a1 a3 1000 (a2).toInt64 (0 : Int32) m47) else some ((-1000001 : Int32), m36))))))) else some ((-1000002 : Int32), μ))
def fn_X5_image (a1 : Int32) (μ : pw_Mem) : Option (Int32 × pw_Mem) :=
  fn_bi (fn_X5_isWithin a1 (0 : Int32) (1 : Int32) μ) (fun r3 m3 => (if r3 ≠ 0 then (if (m3 4 0) ≠ 0 then fn_ix a1 2 (fun j30 => fn_bv (fn_X2_take (40 + 7 * j30) 4 m3) (fun m35 => some ((1 : Int32), m35))) else some ((-1000002 : Int32), m3)) else some ((-1000001 : Int32), m3)))
def fn_X5_restore (a1 : Int32) (μ : pw_Mem) : Option (Int32 × pw_Mem) :=
  fn_bi (fn_X5_isWithin a1 (0 : Int32) (1 : Int32) μ) (fun r3 m3 => (if r3 ≠ 0 then fn_ix a1 2 (fun j17 => (if (m3 (40 + 7 * j17) 0) ≠ 0 then fn_ix a1 2 (fun j36 => fn_bv (fn_X2_take 4 (40 + 7 * j36) m3) (fun m37 => some ((1 : Int32), (pw_st m37 20 1 (0 : Int32))))) else some ((-1000002 : Int32), m3))) else some ((-1000001 : Int32), m3)))
def fn_X5_kind (a1 : Int32) (μ : pw_Mem) : Option (Int32 × pw_Mem) :=
  fn_bi (fn_X5_isPulpit a1 μ) (fun r2 m2 => (if r2 = 0 then some ((-1000001 : Int32), m2) else fn_ix a1 5 (fun j16 => some ((m2 (4 + 3) j16), m2))))
def fl_X5_isSuch_4 (k : pw_Mem → Option (Int32 × pw_Mem)) (w1 : Int32) : Nat → Int32 → Int32 → pw_Mem → Option (Int32 × pw_Mem)
  | 0, _, _, _ => none
  | n + 1, v2, v3, m => (if (6 : Int32) ≤ v3 then k m else (if v2 ≠ w1 then fn_ix v2 6 (fun j21 => fl_X5_isSuch_4 k w1 n (pw_tv 1 j21) (v3 + 1) m) else fn_bz (1 : Int32) (some ((1 : Int32), m))))
def fn_X5_isSuch (a0 : Int32) (a1 : Int32) (μ : pw_Mem) : Option (Int32 × pw_Mem) :=
  fl_X5_isSuch_4 (fun m29 => fn_bz (0 : Int32) (some ((0 : Int32), m29))) a1 1000 a0 (0 : Int32) μ
def fn_X5_as (a1 : Int32) (a2 : Int32) (μ : pw_Mem) : Option (Int32 × pw_Mem) :=
  fn_bi (fn_X5_isPulpit a1 μ) (fun r2 m2 => (if r2 = 0 then some ((-1000001 : Int32), m2) else fn_bi (fn_X5_isWithin a2 (0 : Int32) (5 : Int32) m2) (fun r11 m11 => (if r11 ≠ 0 then fn_ix a1 5 (fun j28 => fn_bi (fn_X5_isSuch (m11 (4 + 3) j28) a2 m11) (fun r30 m30 => (if r30 = 0 then fn_bi (fn_X5_found (3 : Int32) m30) (fun r46 m46 => some (r46, m46)) else fn_bi (fn_X5_foundNothing a1 m30) (fun r38 m38 => some (r38, m38))))) else some ((-1000001 : Int32), m11)))))
def fn_X5_trace (a1 : Int32) (μ : pw_Mem) : Option (Int32 × pw_Mem) :=
  (if a1 < 0 then some ((-1000000 : Int32), μ) else (if (μ 22 1) ≤ a1 then some ((-1000000 : Int32), μ) else fn_ix a1 16 (fun j23 => some ((μ 23 j23), μ))))
def fl_X5_rowsThere_4 (k : Int32 → pw_Mem → Option (Int32 × pw_Mem))  : Nat → Int32 → Int32 → pw_Mem → Option (Int32 × pw_Mem)
  | 0, _, _, _ => none
  | n + 1, v1, v2, m => (if (8 : Int32) ≤ v2 then k v1 m else fn_ix v2 8 (fun j15 => fn_jn1 (fun x25_0 m25 => fl_X5_rowsThere_4 k  n x25_0 (v2 + 1) m25) (fun k25 => (if (m (24 + 2 * j15) 1) ≠ 0 then k25 v1 m else k25 (v1 + 1) m))))
def fn_X5_rowsThere  (μ : pw_Mem) : Option (Int32 × pw_Mem) :=
  fl_X5_rowsThere_4 (fun y4_1 m31 => some (y4_1, m31))  1000 (0 : Int32) (0 : Int32) μ
def fn_X5_count (a1 : Int32) (μ : pw_Mem) : Option (Int32 × pw_Mem) :=
  (if a1 = 0 then fn_bi (fn_X5_rowsThere μ) (fun r57 m57 => some (r57, m57)) else (if a1 = 1 then some ((μ 4 4), μ) else (if a1 = 2 then some ((μ 4 5), μ) else (if a1 = 3 then some ((μ 4 3), μ) else (if a1 = 4 then some ((μ 4 1), μ) else (if a1 = 5 then some ((μ 4 2), μ) else (if a1 = 6 then some ((μ 20 1), μ) else (if a1 = 7 then some ((μ 2 1), μ) else (if a1 = 8 then fn_bi (fn_X2_wholeGates 4 μ) (fun r121 m121 => some (r121, m121)) else (if a1 = 9 then fn_bi (fn_X2_wordsHeard 4 μ) (fun r129 m129 => some (r129, m129)) else some ((-1000001 : Int32), μ)))))))))))
def fn_X5_status  (μ : pw_Mem) : Option (Int32 × pw_Mem) :=
  some ((μ 0 9), μ)
def fn_X6_in (a0 : Int64) (a2 : Int64) (a4 : Int64) (μ : pw_Mem) : Option (Int32 × pw_Mem) :=
  (if (lg_cmp a0 a2) < 0 then fn_bz (0 : Int32) (some ((0 : Int32), μ)) else (if 0 < (lg_cmp a0 a4) then fn_bz (0 : Int32) (some ((0 : Int32), μ)) else fn_bz (1 : Int32) (some ((1 : Int32), μ))))
def fn_X6_has (a0 : Int32) (a1 : Int32) (μ : pw_Mem) : Option (Int32 × pw_Mem) :=
  (if ((a0 >>> (a1 &&& 31)) &&& (1 : Int32)) ≠ (1 : Int32) then fn_bz (0 : Int32) (some ((0 : Int32), μ)) else fn_bz (1 : Int32) (some ((1 : Int32), μ)))
def fl_X6_ones_4 (k : Int32 → pw_Mem → Option (Int32 × pw_Mem)) (w0 : Int32) : Nat → Int32 → Int32 → pw_Mem → Option (Int32 × pw_Mem)
  | 0, _, _, _ => none
  | n + 1, v1, v2, m => (if (16 : Int32) ≤ v2 then k v1 m else fl_X6_ones_4 k w0 n (v1 + ((w0 >>> (v2 &&& 31)) &&& (1 : Int32))) (v2 + 1) m)
def fn_X6_ones (a0 : Int32) (μ : pw_Mem) : Option (Int32 × pw_Mem) :=
  fl_X6_ones_4 (fun y4_1 m24 => some (y4_1, m24)) a0 1000 (0 : Int32) (0 : Int32) μ
def fl_X6_copyOf_3 (k : pw_Mem → Option (pw_Mem)) (w1 : Int32) (w2 : Int32) (w3 : Int32) : Nat → Int32 → pw_Mem → Option (pw_Mem)
  | 0, _, _ => none
  | n + 1, v4, m => (if w3 ≤ v4 then k m else fn_ix (w1 + v4) 670 (fun j25 => fn_ix (w2 + v4) 670 (fun j26 => fl_X6_copyOf_3 k w1 w2 w3 n (v4 + 1) (pw_st m 55 j26 (m 55 j25)))))
def fn_X6_copyOf (a1 : Int32) (a2 : Int32) (a3 : Int32) (μ : pw_Mem) : Option (pw_Mem) :=
  fl_X6_copyOf_3 (fun m33 => some m33) a1 a2 a3 1000 (0 : Int32) μ
def fn_X6_isPulpit (a1 : Int32) (μ : pw_Mem) : Option (Int32 × pw_Mem) :=
  fn_ix (1 : Int32) 670 (fun j8 => fn_bi (fn_X6_in (a1).toInt64 (0 : Int64) (((μ 55 j8) - (1 : Int32))).toInt64 μ) (fun r12 m12 => fn_bz r12 (some (r12, m12))))
def fn_X6_isStretch (a1 : Int32) (μ : pw_Mem) : Option (Int32 × pw_Mem) :=
  fn_ix (0 : Int32) 670 (fun j8 => fn_bi (fn_X6_in (a1).toInt64 (0 : Int64) (((μ 55 j8) - (1 : Int32))).toInt64 μ) (fun r12 m12 => fn_bz r12 (some (r12, m12))))
def fn_X6_isRoad  (μ : pw_Mem) : Option (Int32 × pw_Mem) :=
  fn_ix (0 : Int32) 670 (fun j5 => (if (μ 55 j5) ≤ 0 then fn_bz (0 : Int32) (some ((0 : Int32), μ)) else fn_bz (1 : Int32) (some ((1 : Int32), μ))))
def fn_X6_isRow (a0 : Int32) (μ : pw_Mem) : Option (Int32 × pw_Mem) :=
  fn_bi (fn_X6_in (a0).toInt64 (0 : Int64) (7 : Int64) μ) (fun r6 m6 => fn_bz r6 (some (r6, m6)))
def fn_X6_finds (a1 : Int32) (μ : pw_Mem) : Option (Int32 × pw_Mem) :=
  some (((-1000010 : Int32) - a1), (pw_st μ 54 5 a1))
def fn_X6_against (a1 : Int32) (a2 : Int32) (a3 : Int32) (μ : pw_Mem) : Option (Int32 × pw_Mem) :=
  fn_ix a1 8 (fun j5 => (if 0 ≤ (μ 57 j5) then fn_jn0 (fun m37 => some ((2 : Int32), m37)) (fun k37 => (if a2 < 0 then k37 μ else (if a3 < 0 then k37 μ else fn_ix a1 8 (fun j31 => (if (lg_cmp ((a2).toInt64 + (a3).toInt64) ((μ 57 j31)).toInt64) ≤ 0 then some ((0 : Int32), μ) else k37 μ))))) else some ((1 : Int32), μ)))
def fl_X6_row_60 (k : pw_Mem → Option (Int32 × pw_Mem)) (w1 : Int32) (w3 : Int32) : Nat → Int32 → pw_Mem → Option (Int32 × pw_Mem)
  | 0, _, _ => none
  | n + 1, v4, m => (if (40 : Int32) ≤ v4 then k m else fn_ix (((40 : Int32) * w1) + v4) 320 (fun j79 => fl_X6_row_60 k w1 w3 n (v4 + 1) (pw_st m 59 j79 (0 : Int32))))
def fn_X6_row (a1 : Int32) (a2 : Int32) (a3 : Int32) (μ : pw_Mem) : Option (Int32 × pw_Mem) :=
  fn_bi (fn_X6_isRow a1 μ) (fun r1 m1 => (if r1 = 0 then some ((-1000001 : Int32), m1) else fn_bi (fn_X6_in (a2).toInt64 (0 : Int64) (2 : Int64) m1) (fun r13 m13 => (if r13 = 0 then some ((-1000001 : Int32), m13) else (if a3 ≤ (40 : Int32) then (if 0 ≤ a3 then fn_ix a1 8 (fun j49 => fn_ix a1 8 (fun j56 => fl_X6_row_60 (fun m86 => some (a3, m86)) a1 a3 1000 (0 : Int32) (pw_st (pw_st (pw_st m13 54 5 (0 : Int32)) 57 j49 a3) 58 j56 a2))) else fn_bi (fn_X6_finds (4 : Int32) m13) (fun r34 m34 => some (r34, m34))) else some ((-1000001 : Int32), m13))))))
def fn_X6_set (a1 : Int32) (a2 : Int32) (a3 : Int32) (μ : pw_Mem) : Option (Int32 × pw_Mem) :=
  fn_bi (fn_X6_isRow a1 μ) (fun r1 m1 => (if r1 ≠ 0 then fn_bi (fn_X6_against a1 a2 (1 : Int32) m1) (fun r14 m14 => (if r14 ≤ 0 then fn_ix a1 8 (fun j51 => fn_jn1 (fun x76_0 m76 => fn_ix (((40 : Int32) * a1) + a2) 320 (fun j76 => fn_ix (((40 : Int32) * a1) + a2) 320 (fun j87 => some (((pw_st m76 59 j76 x76_0) 59 j87), (pw_st m76 59 j76 x76_0))))) (fun k76 => (if ((pw_st m14 54 5 (0 : Int32)) 58 j51) ≠ 0 then fn_ix a1 8 (fun j65 => (if ((pw_st m14 54 5 (0 : Int32)) 58 j65) ≠ (1 : Int32) then k76 a3 (pw_st m14 54 5 (0 : Int32)) else k76 (a3).toInt16.toInt32 (pw_st m14 54 5 (0 : Int32)))) else k76 (a3).toInt8.toInt32 (pw_st m14 54 5 (0 : Int32))))) else fn_bi (fn_X6_finds r14 m14) (fun r27 m27 => some (r27, m27)))) else some ((-1000001 : Int32), m1)))
def fl_X6_copy_99 (k : pw_Mem → Option (Int32 × pw_Mem)) (w1 : Int32) (w2 : Int32) (w3 : Int32) (w4 : Int32) (w5 : Int32) : Nat → Int32 → pw_Mem → Option (Int32 × pw_Mem)
  | 0, _, _ => none
  | n + 1, v6, m => (if w5 ≤ v6 then k m else fn_ix ((((40 : Int32) * w1) + w2) + v6) 320 (fun j125 => fn_ix v6 40 (fun j126 => fl_X6_copy_99 k w1 w2 w3 w4 w5 n (v6 + 1) (pw_st m 60 j126 (m 59 j125)))))
def fl_X6_copy_136 (k : pw_Mem → Option (Int32 × pw_Mem)) (w3 : Int32) (w4 : Int32) (w5 : Int32) : Nat → Int32 → pw_Mem → Option (Int32 × pw_Mem)
  | 0, _, _ => none
  | n + 1, v6, m => (if w5 ≤ v6 then k m else fn_ix v6 40 (fun j163 => fn_ix ((((40 : Int32) * w3) + w4) + v6) 320 (fun j164 => fl_X6_copy_136 k w3 w4 w5 n (v6 + 1) (pw_st m 59 j164 (m 60 j163)))))
def fn_X6_copy (a1 : Int32) (a2 : Int32) (a3 : Int32) (a4 : Int32) (a5 : Int32) (μ : pw_Mem) : Option (Int32 × pw_Mem) :=
  fn_bi (fn_X6_isRow a1 μ) (fun r1 m1 => (if r1 = 0 then some ((-1000001 : Int32), m1) else fn_bi (fn_X6_isRow a3 m1) (fun r8 m8 => (if r8 ≠ 0 then fn_ix a1 8 (fun j22 => (if (m8 57 j22) < 0 then fn_bi (fn_X6_finds (1 : Int32) m8) (fun r37 m37 => some (r37, m37)) else fn_ix a3 8 (fun j31 => (if 0 ≤ (m8 57 j31) then fn_ix a1 8 (fun j46 => fn_ix a3 8 (fun j52 => (if (m8 58 j46) = (m8 58 j52) then fn_bi (fn_X6_against a1 a2 a5 m8) (fun r67 m67 => (if 0 < r67 then fn_bi (fn_X6_finds (2 : Int32) m67) (fun r87 m87 => some (r87, m87)) else fn_bi (fn_X6_against a3 a4 a5 m67) (fun r79 m79 => (if r79 ≤ 0 then fl_X6_copy_99 (fun m133 => fl_X6_copy_136 (fun m171 => some (a5, m171)) a3 a4 a5 1000 (0 : Int32) m133) a1 a2 a3 a4 a5 1000 (0 : Int32) (pw_st m79 54 5 (0 : Int32)) else fn_bi (fn_X6_finds (2 : Int32) m79) (fun r87 m87 => some (r87, m87)))))) else fn_bi (fn_X6_finds (5 : Int32) m8) (fun r58 m58 => some (r58, m58))))) else fn_bi (fn_X6_finds (1 : Int32) m8) (fun r37 m37 => some (r37, m37)))))) else some ((-1000001 : Int32), m8)))))
def fn_X6_drop (a1 : Int32) (μ : pw_Mem) : Option (Int32 × pw_Mem) :=
  fn_bi (fn_X6_isRow a1 μ) (fun r1 m1 => (if r1 ≠ 0 then fn_ix a1 8 (fun j15 => (if 0 ≤ (m1 57 j15) then fn_ix a1 8 (fun j35 => fn_ix a1 8 (fun j43 => some (((pw_st m1 54 5 (0 : Int32)) 57 j35), (pw_st (pw_st m1 54 5 (0 : Int32)) 57 j43 (-1 : Int32))))) else fn_bi (fn_X6_finds (1 : Int32) m1) (fun r21 m21 => some (r21, m21)))) else some ((-1000001 : Int32), m1)))
def fn_X6_feed (a1 : Int32) (μ : pw_Mem) : Option (Int32 × pw_Mem) :=
  fn_bi (fn_X6_in (a1).toInt64 (0 : Int64) (255 : Int64) μ) (fun r6 m6 => (if r6 ≠ 0 then (if (m6 54 3) ≠ (90 : Int32) then fn_ix (m6 54 3) 90 (fun j36 => some (((pw_st (pw_st m6 56 j36 a1) 54 3 (((pw_st m6 56 j36 a1) 54 3) + (1 : Int32))) 54 3), (pw_st (pw_st m6 56 j36 a1) 54 3 (((pw_st m6 56 j36 a1) 54 3) + (1 : Int32))))) else some ((-1000003 : Int32), m6)) else some ((-1000001 : Int32), m6)))
def fn_X6_here  (μ : pw_Mem) : Option (Int32 × pw_Mem) :=
  (if (μ 54 3) ≤ (μ 54 10) then some ((-1 : Int32), μ) else fn_ix (μ 54 10) 90 (fun j19 => some ((μ 56 j19), μ)))
def fn_X6_fails (a1 : Int32) (a2 : Int32) (μ : pw_Mem) : Option (Int32 × pw_Mem) :=
  fn_bz (0 : Int32) (some ((0 : Int32), (pw_st (pw_st μ 54 4 a1) 54 11 a2)))
def fn_X6_takes (a1 : Int32) (μ : pw_Mem) : Option (Int32 × pw_Mem) :=
  fn_bi (fn_X6_here μ) (fun r1 m1 => (if r1 = a1 then fn_bz (1 : Int32) (some ((1 : Int32), (pw_st m1 54 10 ((m1 54 10) + (1 : Int32))))) else fn_bi (fn_X6_fails (1 : Int32) (m1 54 10) m1) (fun r14 m14 => fn_bz r14 (some (r14, m14)))))
def fl_X6_takesNumber_10 (k : pw_Mem → Option (Int32 × pw_Mem)) (w1 : Int32) (w2 : Int32) (w3 : Int32) : Nat → pw_Mem → Option (Int32 × pw_Mem)
  | 0, _ => none
  | n + 1, m => fn_bi (fn_X6_here m) (fun r11 m11 => fn_bi (fn_X6_in (r11).toInt64 (48 : Int64) (57 : Int64) m11) (fun r21 m21 => (if r21 = 0 then k m21 else fn_jn1 (fun x60_0 m60 => fl_X6_takesNumber_10 k w1 w2 w3 n (pw_st (pw_st m60 54 12 x60_0) 54 10 (((pw_st m60 54 12 x60_0) 54 10) + (1 : Int32)))) (fun k60 => (if (2 : Int32) ≤ ((m21 54 10) - w3) then k60 (m21 54 12) m21 else fn_bi (fn_X6_here m21) (fun r46 m46 => k60 ((((10 : Int32) * (m21 54 12)) + r46) - (48 : Int32)) m46))))))
def fn_X6_takesNumber (a1 : Int32) (a2 : Int32) (μ : pw_Mem) : Option (Int32 × pw_Mem) :=
  fl_X6_takesNumber_10 (fun m76 => fn_bi (fn_X6_in (((m76 54 10) - (μ 54 10))).toInt64 (1 : Int64) (2 : Int64) m76) (fun r87 m87 => (if r87 ≠ 0 then fn_bi (fn_X6_in ((m87 54 12)).toInt64 (a1).toInt64 (a2).toInt64 m87) (fun r109 m109 => (if r109 ≠ 0 then fn_bz (1 : Int32) (some ((1 : Int32), m109)) else fn_bi (fn_X6_fails (2 : Int32) (μ 54 10) m109) (fun r118 m118 => fn_bz r118 (some (r118, m118))))) else fn_bi (fn_X6_fails (1 : Int32) (μ 54 10) m87) (fun r96 m96 => fn_bz r96 (some (r96, m96)))))) a1 a2 (μ 54 10) 1000 (pw_st μ 54 12 (0 : Int32))
def fn_X6_kindOf (a0 : Int32) (μ : pw_Mem) : Option (Int32 × pw_Mem) :=
  (if a0 ≠ (98 : Int32) then (if a0 ≠ (107 : Int32) then (if a0 ≠ (121 : Int32) then (if a0 ≠ (100 : Int32) then (if a0 ≠ (101 : Int32) then some ((0 : Int32), μ) else some ((5 : Int32), μ)) else some ((4 : Int32), μ)) else some ((3 : Int32), μ)) else some ((2 : Int32), μ)) else some ((1 : Int32), μ))
def fn_X6_takesLaw  (μ : pw_Mem) : Option (Int32 × pw_Mem) :=
  fn_bi (fn_X6_takes (112 : Int32) μ) (fun r3 m3 => (if r3 = 0 then fn_bz (0 : Int32) (some ((0 : Int32), m3)) else fn_bi (fn_X6_takesNumber (4 : Int32) (16 : Int32) m3) (fun r13 m13 => (if r13 ≠ 0 then fn_ix (154 : Int32) 670 (fun j32 => fn_bi (fn_X6_takes (44 : Int32) (pw_st m13 55 j32 (m13 54 12))) (fun r36 m36 => (if r36 = 0 then fn_bz (0 : Int32) (some ((0 : Int32), m36)) else fn_ix (154 : Int32) 670 (fun j51 => fn_bi (fn_X6_takesNumber (0 : Int32) ((m36 55 j51) - (1 : Int32)) m36) (fun r54 m54 => (if r54 ≠ 0 then fn_ix (155 : Int32) 670 (fun j73 => fn_bi (fn_X6_takes (59 : Int32) (pw_st m54 55 j73 (m54 54 12))) (fun r77 m77 => fn_bz r77 (some (r77, m77)))) else fn_bz (0 : Int32) (some ((0 : Int32), m54)))))))) else fn_bz (0 : Int32) (some ((0 : Int32), m13))))))
def fn_X6_takesStretch  (μ : pw_Mem) : Option (Int32 × pw_Mem) :=
  fn_bi (fn_X6_here μ) (fun r1 m1 => (if r1 = (114 : Int32) then fn_ix (152 : Int32) 670 (fun j26 => (if (m1 55 j26) ≠ (9 : Int32) then fn_bi (fn_X6_takesNumber (0 : Int32) (2 : Int32) (pw_st m1 54 10 ((m1 54 10) + (1 : Int32)))) (fun r55 m55 => (if r55 ≠ 0 then fn_ix (152 : Int32) 670 (fun j77 => fn_ix ((156 : Int32) + (m55 55 j77)) 670 (fun j83 => fn_ix (152 : Int32) 670 (fun j92 => fn_ix (152 : Int32) 670 (fun j95 => fn_bi (fn_X6_takes (59 : Int32) (pw_st (pw_st m55 55 j83 (m55 54 12)) 55 j95 (((pw_st m55 55 j83 (m55 54 12)) 55 j92) + (1 : Int32)))) (fun r99 m99 => fn_bz r99 (some (r99, m99))))))) else fn_bz (0 : Int32) (some ((0 : Int32), m55)))) else fn_bi (fn_X6_fails (3 : Int32) (m1 54 10) m1) (fun r38 m38 => fn_bz r38 (some (r38, m38))))) else fn_bi (fn_X6_fails (1 : Int32) (m1 54 10) m1) (fun r15 m15 => fn_bz r15 (some (r15, m15)))))
def fn_X6_takesPulpit  (μ : pw_Mem) : Option (Int32 × pw_Mem) :=
  fn_ix (153 : Int32) 670 (fun j7 => fn_bi (fn_X6_here μ) (fun r10 m10 => fn_bi (fn_X6_kindOf r10 m10) (fun r13 m13 => (if r13 ≠ 0 then (if (μ 55 j7) ≠ (5 : Int32) then fn_ix ((165 : Int32) + (μ 55 j7)) 670 (fun j66 => fn_ix (152 : Int32) 670 (fun j76 => fn_bi (fn_X6_takesNumber (0 : Int32) (((pw_st (pw_st m13 54 10 ((m13 54 10) + (1 : Int32))) 55 j66 r13) 55 j76) - (1 : Int32)) (pw_st (pw_st m13 54 10 ((m13 54 10) + (1 : Int32))) 55 j66 r13)) (fun r79 m79 => (if r79 ≠ 0 then fn_ix ((171 : Int32) + (μ 55 j7)) 670 (fun j100 => fn_bi (fn_X6_takes (44 : Int32) (pw_st m79 55 j100 (m79 54 12))) (fun r104 m104 => (if r104 = 0 then fn_bz (0 : Int32) (some ((0 : Int32), m104)) else fn_ix (154 : Int32) 670 (fun j119 => fn_bi (fn_X6_takesNumber (0 : Int32) ((m104 55 j119) - (1 : Int32)) m104) (fun r122 m122 => (if r122 ≠ 0 then fn_ix ((176 : Int32) + (μ 55 j7)) 670 (fun j143 => fn_ix (153 : Int32) 670 (fun j152 => fn_ix (153 : Int32) 670 (fun j155 => fn_bi (fn_X6_takes (59 : Int32) (pw_st (pw_st m122 55 j143 (m122 54 12)) 55 j155 (((pw_st m122 55 j143 (m122 54 12)) 55 j152) + (1 : Int32)))) (fun r159 m159 => fn_bz r159 (some (r159, m159)))))) else fn_bz (0 : Int32) (some ((0 : Int32), m122)))))))) else fn_bz (0 : Int32) (some ((0 : Int32), m79)))))) else fn_bi (fn_X6_fails (3 : Int32) (m13 54 10) m13) (fun r42 m42 => fn_bz r42 (some (r42, m42)))) else fn_bi (fn_X6_fails (1 : Int32) (m13 54 10) m13) (fun r27 m27 => fn_bz r27 (some (r27, m27)))))))
def fl_X6_takesAll_39 (k : pw_Mem → Option (Int32 × pw_Mem))  : Nat → pw_Mem → Option (Int32 × pw_Mem)
  | 0, _ => none
  | n + 1, m => (if (m 54 3) ≤ (m 54 10) then fn_bz (1 : Int32) (some ((1 : Int32), m)) else fn_bi (fn_X6_takesPulpit m) (fun r51 m51 => (if r51 ≠ 0 then fl_X6_takesAll_39 k  n m51 else k m51)))
def fl_X6_takesAll_9 (k : pw_Mem → Option (Int32 × pw_Mem))  : Nat → pw_Mem → Option (Int32 × pw_Mem)
  | 0, _ => none
  | n + 1, m => fn_ix (152 : Int32) 670 (fun j16 => fn_jn0 (fun m30 => fn_bi (fn_X6_takesStretch m30) (fun r31 m31 => (if r31 ≠ 0 then fl_X6_takesAll_9 k  n m31 else k m31))) (fun k30 => (if (m 55 j16) < (3 : Int32) then k30 m else fn_bi (fn_X6_here m) (fun r22 m22 => (if r22 ≠ (114 : Int32) then fl_X6_takesAll_39 (fun m57 => fn_bz (0 : Int32) (some ((0 : Int32), m57)))  1000 m22 else k30 m22)))))
def fn_X6_takesAll  (μ : pw_Mem) : Option (Int32 × pw_Mem) :=
  fn_bi (fn_X6_takesLaw μ) (fun r1 m1 => (if r1 ≠ 0 then fl_X6_takesAll_9 (fun m37 => fn_bz (0 : Int32) (some ((0 : Int32), m37)))  1000 m1 else fn_bz (0 : Int32) (some ((0 : Int32), m1))))
def fl_X6_road_2 (k : pw_Mem → Option (Int32 × pw_Mem))  : Nat → Int32 → pw_Mem → Option (Int32 × pw_Mem)
  | 0, _, _ => none
  | n + 1, v1, m => (if (38 : Int32) ≤ v1 then k m else fn_ix ((152 : Int32) + v1) 670 (fun j18 => fl_X6_road_2 k  n (v1 + 1) (pw_st m 55 j18 (0 : Int32))))
def fn_X6_road  (μ : pw_Mem) : Option (Int32 × pw_Mem) :=
  fl_X6_road_2 (fun m25 => fn_bi (fn_X6_takesAll (pw_st m25 54 10 (0 : Int32))) (fun r31 m31 => (if r31 ≠ 0 then fn_bv (fn_X6_copyOf (152 : Int32) (0 : Int32) (38 : Int32) (pw_st m31 54 3 (0 : Int32))) (fun m59 => fn_ix (1 : Int32) 670 (fun j72 => some (((pw_st m59 54 1 (0 : Int32)) 55 j72), (pw_st m59 54 1 (0 : Int32))))) else some (((-1000100 : Int32) - ((pw_st m31 54 3 (0 : Int32)) 54 11)), (pw_st m31 54 3 (0 : Int32))))))  1000 (0 : Int32) μ
def fn_X6_fault  (μ : pw_Mem) : Option (Int32 × pw_Mem) :=
  some ((μ 54 4), μ)
def fn_X6_saysMany (a1 : Int32) (a2 : Int32) (μ : pw_Mem) : Option (Int32 × pw_Mem) :=
  fn_ix ((a1 + (19 : Int32)) + a2) 670 (fun j17 => fn_ix ((a1 + (4 : Int32)) + (μ 55 j17)) 670 (fun j19 => fn_ix ((a1 + (13 : Int32)) + a2) 670 (fun j31 => (if (μ 55 j31) ≠ (4 : Int32) then (if (μ 55 j19) ≠ 0 then (if (μ 55 j19) ≠ (1 : Int32) then some ((4 : Int32), μ) else some ((1 : Int32), μ)) else some ((3 : Int32), μ)) else some ((0 : Int32), μ)))))
def fl_X6_saysIn_40 (k : Int32 → pw_Mem → Option (Int32 × pw_Mem)) (w1 : Int32) (w2 : Int32) (w4 : Int32) (w5 : Int32) : Nat → Int32 → Int32 → pw_Mem → Option (Int32 × pw_Mem)
  | 0, _, _, _ => none
  | n + 1, v3, v6, m => fn_bi (fn_X6_saysMany w1 w2 m) (fun r45 m45 => (if r45 ≤ v6 then k v3 m45 else fn_ix ((w1 + (24 : Int32)) + w2) 670 (fun j63 => fn_nz w4 (fl_X6_saysIn_40 k w1 w2 w4 w5 n (v3 ||| ((1 : Int32) <<< ((((m45 55 j63) + (w5 * v6)) - ((m45 55 j63) + (w5 * v6)) / w4 * w4) &&& 31))) (v6 + 1) m45))))
def fn_X6_saysIn (a1 : Int32) (a2 : Int32) (μ : pw_Mem) : Option (Int32 × pw_Mem) :=
  fn_ix (a1 + (2 : Int32)) 670 (fun j9 => fn_ix ((a1 + (13 : Int32)) + a2) 670 (fun j22 => fn_jn1 (fun x35_0 m35 => fl_X6_saysIn_40 (fun y40_3 m82 => some (y40_3, m82)) a1 a2 (μ 55 j9) x35_0 1000 (0 : Int32) (0 : Int32) m35) (fun k35 => (if (μ 55 j22) ≠ (5 : Int32) then k35 (1 : Int32) μ else k35 ((μ 55 j9) - (1 : Int32)) μ))))
def fn_X6_passes (a1 : Int32) (a2 : Int32) (μ : pw_Mem) : Option (pw_Mem) :=
  fn_ix (a1 + (2 : Int32)) 670 (fun j7 => fn_bi (fn_X6_saysIn a1 a2 μ) (fun r12 m12 => fn_bi (fn_X6_saysMany a1 a2 m12) (fun r20 m20 => fn_ix ((a1 + (19 : Int32)) + a2) 670 (fun j35 => fn_ix ((a1 + (13 : Int32)) + a2) 670 (fun j48 => fn_ix ((a1 + (29 : Int32)) + (m20 55 j35)) 670 (fun j63 => fn_ix ((a1 + (29 : Int32)) + (m20 55 j35)) 670 (fun j67 => fn_jn1 (fun x123_0 m123 => fn_ix ((a1 + (24 : Int32)) + a2) 670 (fun j123 => fn_jn1 (fun x151_0 m151 => fn_jn1 (fun x182_0 m182 => fn_ix (a1 + (0 : Int32)) 670 (fun j206 => fn_nz (m182 55 j206) (fn_ix ((a1 + (19 : Int32)) + a2) 670 (fun j208 => some (pw_st m182 55 j208 (((m20 55 j35) + x182_0) - ((m20 55 j35) + x182_0) / (m182 55 j206) * (m182 55 j206))))))) (fun k182 => (if x151_0 = 0 then (if (m20 55 j48) ≠ (2 : Int32) then k182 (1 : Int32) m151 else fn_ix (a1 + (0 : Int32)) 670 (fun j175 => k182 ((m151 55 j175) - (1 : Int32)) m151)) else k182 (0 : Int32) m151))) (fun k151 => fn_jn0 (fun m150 => k151 (0 : Int32) m150) (fun k150 => (if (m20 55 j48) ≠ (3 : Int32) then k150 (pw_st m123 55 j123 x123_0) else fn_ix (a1 + (3 : Int32)) 670 (fun j139 => fn_bi (fn_X6_has r12 ((pw_st m123 55 j123 x123_0) 55 j139) (pw_st m123 55 j123 x123_0)) (fun r140 m140 => (if r140 = 0 then k150 m140 else k151 (1 : Int32) m140)))))))) (fun k123 => (if (m20 55 j48) ≠ (5 : Int32) then fn_ix ((a1 + (24 : Int32)) + a2) 670 (fun j117 => fn_nz (μ 55 j7) (k123 ((((pw_st m20 55 j67 ((m20 55 j63) ||| r12)) 55 j117) + r20) - (((pw_st m20 55 j67 ((m20 55 j63) ||| r12)) 55 j117) + r20) / (μ 55 j7) * (μ 55 j7)) (pw_st m20 55 j67 ((m20 55 j63) ||| r12)))) else fn_ix ((a1 + (24 : Int32)) + a2) 670 (fun j94 => fn_nz (μ 55 j7) (k123 (((((pw_st m20 55 j67 ((m20 55 j63) ||| r12)) 55 j94) + ((μ 55 j7) * (4 : Int32))) - r20) - ((((pw_st m20 55 j67 ((m20 55 j63) ||| r12)) 55 j94) + ((μ 55 j7) * (4 : Int32))) - r20) / (μ 55 j7) * (μ 55 j7)) (pw_st m20 55 j67 ((m20 55 j63) ||| r12)))))))))))))
def fl_X6_councilsIn_19 (k : Int32 → pw_Mem → Option (Int32 × pw_Mem)) (w1 : Int32) (w3 : Int32) : Nat → Int32 → Int32 → pw_Mem → Option (Int32 × pw_Mem)
  | 0, _, _, _ => none
  | n + 1, v2, v4, m => (if w3 ≤ v4 then k v2 m else fn_ix ((w1 + (19 : Int32)) + w3) 670 (fun j36 => fn_ix ((w1 + (19 : Int32)) + v4) 670 (fun j48 => fn_jn1 (fun x59_0 m59 => fl_X6_councilsIn_19 k w1 w3 n (v2 ||| x59_0) (v4 + 1) m59) (fun k59 => (if (m 55 j36) ≠ (m 55 j48) then k59 (0 : Int32) m else k59 ((1 : Int32) <<< (w3 &&& 31)) m)))))
def fl_X6_councilsIn_4 (k : Int32 → pw_Mem → Option (Int32 × pw_Mem)) (w1 : Int32) : Nat → Int32 → Int32 → pw_Mem → Option (Int32 × pw_Mem)
  | 0, _, _, _ => none
  | n + 1, v2, v3, m => fn_ix (w1 + (1 : Int32)) 670 (fun j12 => (if (m 55 j12) ≤ v3 then k v2 m else fl_X6_councilsIn_19 (fun y19_2 m67 => fl_X6_councilsIn_4 k w1 n y19_2 (v3 + 1) m67) w1 v3 1000 v2 (0 : Int32) m))
def fn_X6_councilsIn (a1 : Int32) (μ : pw_Mem) : Option (Int32 × pw_Mem) :=
  fl_X6_councilsIn_4 (fun y4_2 m73 => some (y4_2, m73)) a1 1000 (0 : Int32) (0 : Int32) μ
def fl_X6_hourBy_11 (k : pw_Mem → Option (pw_Mem)) (w1 : Int32) (w3 : Int32) : Nat → Int32 → pw_Mem → Option (pw_Mem)
  | 0, _, _ => none
  | n + 1, v4, m => fn_ix (w1 + (1 : Int32)) 670 (fun j20 => (if (m 55 j20) ≤ v4 then k m else fn_bi (fn_X6_has w3 v4 m) (fun r27 m27 => fn_jn0 (fun m40 => fl_X6_hourBy_11 k w1 w3 n (v4 + 1) m40) (fun k40 => (if r27 ≠ 0 then k40 m27 else fn_bv (fn_X6_passes w1 v4 m27) (fun m37 => k40 m37))))))
def fn_X6_hourBy (a1 : Int32) (a2 : Int32) (μ : pw_Mem) : Option (pw_Mem) :=
  fn_bi (fn_X6_councilsIn a1 μ) (fun r2 m2 => fl_X6_hourBy_11 (fun m46 => fn_ix (a1 + (18 : Int32)) 670 (fun j55 => fn_ix (a1 + (18 : Int32)) 670 (fun j58 => some (pw_st m46 55 j58 ((m46 55 j55) + (1 : Int32)))))) a1 (r2 ||| a2) 1000 (0 : Int32) m2)
def fn_X6_all (a1 : Int32) (μ : pw_Mem) : Option (Int32 × pw_Mem) :=
  fn_ix (a1 + (2 : Int32)) 670 (fun j8 => some ((((1 : Int32) <<< ((μ 55 j8) &&& 31)) - (1 : Int32)), μ))
def fl_X6_wholeOnes_4 (k : Int32 → pw_Mem → Option (Int32 × pw_Mem)) (w1 : Int32) : Nat → Int32 → Int32 → pw_Mem → Option (Int32 × pw_Mem)
  | 0, _, _, _ => none
  | n + 1, v2, v3, m => fn_ix (w1 + (0 : Int32)) 670 (fun j12 => (if (m 55 j12) ≤ v3 then k v2 m else fn_ix ((w1 + (29 : Int32)) + v3) 670 (fun j27 => fn_bi (fn_X6_all w1 m) (fun r30 m30 => fn_jn1 (fun x43_0 m43 => fl_X6_wholeOnes_4 k w1 n (v2 ||| x43_0) (v3 + 1) m43) (fun k43 => (if (m 55 j27) ≠ r30 then k43 (0 : Int32) m30 else k43 ((1 : Int32) <<< (v3 &&& 31)) m30))))))
def fn_X6_wholeOnes (a1 : Int32) (μ : pw_Mem) : Option (Int32 × pw_Mem) :=
  fl_X6_wholeOnes_4 (fun y4_2 m51 => some (y4_2, m51)) a1 1000 (0 : Int32) (0 : Int32) μ
def fl_X6_heardWords_4 (k : Int32 → pw_Mem → Option (Int32 × pw_Mem)) (w1 : Int32) : Nat → Int32 → Int32 → pw_Mem → Option (Int32 × pw_Mem)
  | 0, _, _, _ => none
  | n + 1, v2, v3, m => fn_ix (w1 + (0 : Int32)) 670 (fun j12 => (if (m 55 j12) ≤ v3 then k v2 m else fn_ix ((w1 + (29 : Int32)) + v3) 670 (fun j27 => fn_bi (fn_X6_ones (m 55 j27) m) (fun r28 m28 => fl_X6_heardWords_4 k w1 n (v2 + r28) (v3 + 1) m28))))
def fn_X6_heardWords (a1 : Int32) (μ : pw_Mem) : Option (Int32 × pw_Mem) :=
  fl_X6_heardWords_4 (fun y4_2 m39 => some (y4_2, m39)) a1 1000 (0 : Int32) (0 : Int32) μ
def fl_X6_minds_11 (k : pw_Mem → Option (pw_Mem))  : Nat → Int32 → pw_Mem → Option (pw_Mem)
  | 0, _, _ => none
  | n + 1, v1, m => (if (460 : Int32) ≤ v1 then k m else fn_ix (((190 : Int32) + v1) + (20 : Int32)) 670 (fun j39 => fn_ix ((190 : Int32) + v1) 670 (fun j40 => fl_X6_minds_11 k  n (v1 + 1) (pw_st m 55 j40 (m 55 j39)))))
def fn_X6_minds  (μ : pw_Mem) : Option (pw_Mem) :=
  fn_jn0 (fun m57 => fn_bv (fn_X6_copyOf (18 : Int32) ((190 : Int32) + ((20 : Int32) * (m57 54 1))) (20 : Int32) m57) (fun m73 => some (pw_st m73 54 1 ((m73 54 1) + (1 : Int32))))) (fun k57 => (if (μ 54 1) ≠ (24 : Int32) then k57 μ else fl_X6_minds_11 (fun m47 => k57 (pw_st m47 54 1 ((m47 54 1) - (1 : Int32))))  1000 (0 : Int32) μ))
def fl_X6_hours_45 (k : pw_Mem → Option (Int32 × pw_Mem)) (w1 : Int32) : Nat → Int32 → pw_Mem → Option (Int32 × pw_Mem)
  | 0, _, _ => none
  | n + 1, v2, m => (if w1 ≤ v2 then k m else fn_bv (fn_X6_minds m) (fun m51 => fn_bv (fn_X6_hourBy (0 : Int32) (0 : Int32) m51) (fun m57 => fl_X6_hours_45 k w1 n (v2 + 1) m57)))
def fn_X6_hours (a1 : Int32) (μ : pw_Mem) : Option (Int32 × pw_Mem) :=
  fn_bi (fn_X6_isRoad μ) (fun r1 m1 => (if r1 ≠ 0 then fn_bi (fn_X6_in (a1).toInt64 (1 : Int64) (24 : Int64) m1) (fun r16 m16 => (if r16 ≠ 0 then fn_ix (18 : Int32) 670 (fun j31 => (if ((m16 55 j31) + a1) ≤ (9999 : Int32) then fl_X6_hours_45 (fun m66 => fn_bi (fn_X6_wholeOnes (0 : Int32) m66) (fun r68 m68 => some (r68, m68))) a1 1000 (0 : Int32) m16 else some ((-1000003 : Int32), m16))) else some ((-1000001 : Int32), m16))) else some ((-1000002 : Int32), m1)))
def fn_X6_put (a1 : Int32) (a2 : Int32) (μ : pw_Mem) : Option (Int32 × pw_Mem) :=
  fn_bi (fn_X6_isPulpit a1 μ) (fun r2 m2 => (if r2 = 0 then some ((-1000001 : Int32), m2) else fn_bi (fn_X6_isStretch a2 m2) (fun r10 m10 => (if r10 ≠ 0 then fn_ix ((19 : Int32) + a1) 670 (fun j27 => (if (m10 55 j27) ≠ a2 then fn_bv (fn_X6_minds m10) (fun m38 => fn_ix ((19 : Int32) + a1) 670 (fun j50 => some ((m10 55 j27), (pw_st m38 55 j50 a2)))) else some ((-1000002 : Int32), m10))) else some ((-1000001 : Int32), m10)))))
def fn_X6_skip (a1 : Int32) (a2 : Int32) (μ : pw_Mem) : Option (Int32 × pw_Mem) :=
  fn_bi (fn_X6_isPulpit a1 μ) (fun r2 m2 => (if r2 = 0 then some ((-1000001 : Int32), m2) else fn_ix (2 : Int32) 670 (fun j16 => fn_bi (fn_X6_in (a2).toInt64 (0 : Int64) (((m2 55 j16) - (1 : Int32))).toInt64 m2) (fun r20 m20 => (if r20 ≠ 0 then fn_bv (fn_X6_minds m20) (fun m30 => fn_ix ((24 : Int32) + a1) 670 (fun j41 => fn_ix ((24 : Int32) + a1) 670 (fun j52 => some ((m30 55 j41), (pw_st m30 55 j52 a2))))) else some ((-1000001 : Int32), m20))))))
def fn_X6_forget (a1 : Int32) (μ : pw_Mem) : Option (Int32 × pw_Mem) :=
  fn_bi (fn_X6_isStretch a1 μ) (fun r2 m2 => (if r2 ≠ 0 then fn_ix ((29 : Int32) + a1) 670 (fun j19 => (if (m2 55 j19) ≠ 0 then fn_bv (fn_X6_minds m2) (fun m27 => fn_ix ((29 : Int32) + a1) 670 (fun j38 => fn_bi (fn_X6_ones (m27 55 j38) m27) (fun r39 m39 => fn_ix ((29 : Int32) + a1) 670 (fun j52 => some (r39, (pw_st m39 55 j52 (0 : Int32))))))) else some ((-1000002 : Int32), m2))) else some ((-1000001 : Int32), m2)))
def fn_X6_undo  (μ : pw_Mem) : Option (Int32 × pw_Mem) :=
  (if (μ 54 1) ≠ 0 then fn_bv (fn_X6_copyOf ((190 : Int32) + ((20 : Int32) * ((pw_st μ 54 1 ((μ 54 1) - (1 : Int32))) 54 1))) (18 : Int32) (20 : Int32) (pw_st μ 54 1 ((μ 54 1) - (1 : Int32)))) (fun m36 => some ((m36 54 1), m36)) else some ((-1000002 : Int32), μ))
def fn_X6_pulpit (a1 : Int32) (a2 : Int32) (μ : pw_Mem) : Option (Int32 × pw_Mem) :=
  fn_bi (fn_X6_isPulpit a1 μ) (fun r2 m2 => (if r2 ≠ 0 then (if a2 = 0 then fn_ix ((19 : Int32) + a1) 670 (fun j52 => some ((m2 55 j52), m2)) else (if a2 = 1 then fn_ix ((24 : Int32) + a1) 670 (fun j62 => some ((m2 55 j62), m2)) else (if a2 = 2 then fn_bi (fn_X6_councilsIn (0 : Int32) m2) (fun r66 m66 => some (((r66 >>> (a1 &&& 31)) &&& (1 : Int32)), m66)) else (if a2 = 3 then fn_bi (fn_X6_saysIn (0 : Int32) a1 m2) (fun r77 m77 => some (r77, m77)) else some ((-1000001 : Int32), m2))))) else some ((-1000001 : Int32), m2)))
def fl_X6_pulpitsAt_4 (k : Int32 → pw_Mem → Option (Int32 × pw_Mem)) (w1 : Int32) : Nat → Int32 → Int32 → pw_Mem → Option (Int32 × pw_Mem)
  | 0, _, _, _ => none
  | n + 1, v2, v3, m => fn_ix (1 : Int32) 670 (fun j10 => (if (m 55 j10) ≤ v3 then k v2 m else fn_ix ((19 : Int32) + v3) 670 (fun j23 => fn_jn1 (fun x35_0 m35 => fl_X6_pulpitsAt_4 k w1 n (v2 ||| x35_0) (v3 + 1) m35) (fun k35 => (if (m 55 j23) ≠ w1 then k35 (0 : Int32) m else k35 ((1 : Int32) <<< (v3 &&& 31)) m)))))
def fn_X6_pulpitsAt (a1 : Int32) (μ : pw_Mem) : Option (Int32 × pw_Mem) :=
  fl_X6_pulpitsAt_4 (fun y4_2 m43 => some (y4_2, m43)) a1 1000 (0 : Int32) (0 : Int32) μ
def fn_X6_stretch (a1 : Int32) (a2 : Int32) (μ : pw_Mem) : Option (Int32 × pw_Mem) :=
  fn_bi (fn_X6_isStretch a1 μ) (fun r2 m2 => (if r2 ≠ 0 then (if a2 ≠ 0 then (if a2 ≠ (1 : Int32) then (if a2 ≠ (2 : Int32) then some ((-1000001 : Int32), m2) else fn_bi (fn_X6_pulpitsAt a1 m2) (fun r50 m50 => some (r50, m50))) else fn_ix ((29 : Int32) + a1) 670 (fun j39 => some ((m2 55 j39), m2))) else fn_ix ((4 : Int32) + a1) 670 (fun j22 => some ((m2 55 j22), m2))) else some ((-1000001 : Int32), m2)))
def fn_X6_tries  (μ : pw_Mem) : Option (pw_Mem) :=
  fn_bv (fn_X6_copyOf (0 : Int32) (38 : Int32) (38 : Int32) μ) (fun m6 => some m6)
def fl_X6_goesOn_2 (k : pw_Mem → Option (pw_Mem)) (w1 : Int32) : Nat → Int32 → pw_Mem → Option (pw_Mem)
  | 0, _, _ => none
  | n + 1, v2, m => (if w1 ≤ v2 then k m else fn_bv (fn_X6_hourBy (38 : Int32) (0 : Int32) m) (fun m11 => fl_X6_goesOn_2 k w1 n (v2 + 1) m11))
def fn_X6_goesOn (a1 : Int32) (μ : pw_Mem) : Option (pw_Mem) :=
  fl_X6_goesOn_2 (fun m20 => some m20) a1 1000 (0 : Int32) μ
def fn_X6_ahead (a1 : Int32) (a2 : Int32) (a3 : Int32) (μ : pw_Mem) : Option (Int32 × pw_Mem) :=
  fn_bi (fn_X6_isPulpit a1 μ) (fun r2 m2 => (if r2 = 0 then some ((-1000001 : Int32), m2) else fn_bi (fn_X6_in (a2).toInt64 (0 : Int64) (60 : Int64) m2) (fun r14 m14 => (if r14 = 0 then some ((-1000001 : Int32), m14) else fn_bi (fn_X6_in (a3).toInt64 (0 : Int64) (1 : Int64) m14) (fun r24 m24 => (if r24 ≠ 0 then fn_bv (fn_X6_tries m24) (fun m34 => fn_bv (fn_X6_goesOn a2 m34) (fun m39 => (if a3 ≠ 0 then fn_ix ((62 : Int32) + a1) 670 (fun j66 => some ((m39 55 j66), m39)) else fn_ix ((57 : Int32) + a1) 670 (fun j54 => some ((m39 55 j54), m39))))) else some ((-1000001 : Int32), m24)))))))
def fn_X6_heard (a1 : Int32) (a2 : Int32) (μ : pw_Mem) : Option (Int32 × pw_Mem) :=
  fn_bi (fn_X6_isStretch a1 μ) (fun r2 m2 => (if r2 = 0 then some ((-1000001 : Int32), m2) else fn_bi (fn_X6_in (a2).toInt64 (0 : Int64) (60 : Int64) m2) (fun r14 m14 => (if r14 ≠ 0 then fn_bv (fn_X6_tries m14) (fun m24 => fn_bv (fn_X6_goesOn a2 m24) (fun m29 => fn_ix ((67 : Int32) + a1) 670 (fun j40 => some ((m29 55 j40), m29)))) else some ((-1000001 : Int32), m14)))))
def fl_X6_whole_17 (k : pw_Mem → Option (Int32 × pw_Mem)) (w1 : Int32) : Nat → Int32 → pw_Mem → Option (Int32 × pw_Mem)
  | 0, _, _ => none
  | n + 1, v2, m => (if (60 : Int32) < v2 then k m else fn_bi (fn_X6_wholeOnes (38 : Int32) m) (fun r26 m26 => fn_bi (fn_X6_has r26 w1 m26) (fun r30 m30 => (if r30 = 0 then fn_bv (fn_X6_hourBy (38 : Int32) (0 : Int32) m30) (fun m42 => fl_X6_whole_17 k w1 n (v2 + 1) m42) else some (v2, m30)))))
def fn_X6_whole (a1 : Int32) (μ : pw_Mem) : Option (Int32 × pw_Mem) :=
  fn_bi (fn_X6_isStretch a1 μ) (fun r2 m2 => (if r2 ≠ 0 then fn_bv (fn_X6_tries m2) (fun m12 => fl_X6_whole_17 (fun m51 => some ((-1000000 : Int32), m51)) a1 1000 (0 : Int32) m12) else some ((-1000001 : Int32), m2)))
def fl_X6_leastOf_2 (k : Int32 → pw_Mem → Option (Int32 × pw_Mem)) (w1 : Int32) : Nat → Int32 → pw_Mem → Option (Int32 × pw_Mem)
  | 0, _, _ => none
  | n + 1, v2, m => fn_bi (fn_X6_has w1 v2 m) (fun r4 m4 => (if r4 ≠ 0 then k v2 m4 else fl_X6_leastOf_2 k w1 n (v2 + 1) m4))
def fn_X6_leastOf (a1 : Int32) (μ : pw_Mem) : Option (Int32 × pw_Mem) :=
  fl_X6_leastOf_2 (fun y2_2 m16 => some (y2_2, m16)) a1 1000 (0 : Int32) μ
def fl_X6_first_29 (k : pw_Mem → Option (Int32 × pw_Mem)) (w1 : Int32) : Nat → Int32 → pw_Mem → Option (Int32 × pw_Mem)
  | 0, _, _ => none
  | n + 1, v2, m => (if (60 : Int32) < v2 then k m else fn_bi (fn_X6_wholeOnes (38 : Int32) m) (fun r38 m38 => (if r38 ≤ 0 then fn_bv (fn_X6_hourBy (38 : Int32) (0 : Int32) m38) (fun m64 => fl_X6_first_29 k w1 n (v2 + 1) m64) else (if w1 ≠ 0 then some (v2, m38) else fn_bi (fn_X6_leastOf r38 m38) (fun r52 m52 => some (r52, m52))))))
def fn_X6_first (a1 : Int32) (μ : pw_Mem) : Option (Int32 × pw_Mem) :=
  fn_bi (fn_X6_isRoad μ) (fun r1 m1 => (if r1 ≠ 0 then fn_bi (fn_X6_in (a1).toInt64 (0 : Int64) (1 : Int64) m1) (fun r14 m14 => (if r14 ≠ 0 then fn_bv (fn_X6_tries m14) (fun m24 => fl_X6_first_29 (fun m73 => some ((-1000000 : Int32), m73)) a1 1000 (0 : Int32) m24) else some ((-1000001 : Int32), m14))) else some ((-1000002 : Int32), m1)))
def fl_X6_left_42 (k : Int32 → pw_Mem → Option (Int32 × pw_Mem))  : Nat → Int32 → Int32 → pw_Mem → Option (Int32 × pw_Mem)
  | 0, _, _, _ => none
  | n + 1, v2, v3, m => fn_ix (0 : Int32) 670 (fun j48 => (if (m 55 j48) ≤ v3 then k v2 m else fn_ix ((67 : Int32) + v3) 670 (fun j61 => fl_X6_left_42 k  n (v2 &&& ((m 55 j61) ^^^ (-1 : Int32))) (v3 + 1) m)))
def fn_X6_left (a1 : Int32) (μ : pw_Mem) : Option (Int32 × pw_Mem) :=
  fn_bi (fn_X6_isRoad μ) (fun r1 m1 => (if r1 ≠ 0 then fn_bi (fn_X6_in (a1).toInt64 (0 : Int64) (60 : Int64) m1) (fun r16 m16 => (if r16 ≠ 0 then fn_bv (fn_X6_tries m16) (fun m26 => fn_bv (fn_X6_goesOn a1 m26) (fun m31 => fn_bi (fn_X6_all (0 : Int32) m31) (fun r36 m36 => fl_X6_left_42 (fun y42_2 m72 => some (y42_2, m72))  1000 r36 (0 : Int32) m36))) else some ((-1000001 : Int32), m16))) else some ((-1000002 : Int32), m1)))
def fl_X6_meet_30 (k : pw_Mem → Option (Int32 × pw_Mem)) (w1 : Int32) (w2 : Int32) : Nat → Int32 → pw_Mem → Option (Int32 × pw_Mem)
  | 0, _, _ => none
  | n + 1, v3, m => (if (60 : Int32) < v3 then k m else fn_ix ((57 : Int32) + w1) 670 (fun j44 => fn_ix ((57 : Int32) + w2) 670 (fun j53 => (if (m 55 j44) ≠ (m 55 j53) then fn_bv (fn_X6_hourBy (38 : Int32) (0 : Int32) m) (fun m63 => fl_X6_meet_30 k w1 w2 n (v3 + 1) m63) else some (v3, m)))))
def fn_X6_meet (a1 : Int32) (a2 : Int32) (μ : pw_Mem) : Option (Int32 × pw_Mem) :=
  fn_bi (fn_X6_isPulpit a1 μ) (fun r2 m2 => (if r2 = 0 then some ((-1000001 : Int32), m2) else fn_bi (fn_X6_isPulpit a2 m2) (fun r10 m10 => (if r10 = 0 then some ((-1000001 : Int32), m10) else (if a1 ≠ a2 then fn_bv (fn_X6_tries m10) (fun m25 => fl_X6_meet_30 (fun m72 => some ((-1000000 : Int32), m72)) a1 a2 1000 (0 : Int32) m25) else some ((-1000001 : Int32), m10))))))
def fl_X6_round_34 (k : Int32 → pw_Mem → Option (Int32 × pw_Mem)) (w1 : Int32) : Nat → Int32 → Int32 → pw_Mem → Option (Int32 × pw_Mem)
  | 0, _, _, _ => none
  | n + 1, v2, v3, m => (if (10 : Int32) ≤ v3 then k v2 m else fn_jn1 (fun x70_0 m70 => fl_X6_round_34 k w1 n x70_0 (v3 + 1) m70) (fun k70 => fn_jn0 (fun m69 => k70 (0 : Int32) m69) (fun k69 => (if v2 = 0 then k69 m else fn_ix ((57 : Int32) + v3) 670 (fun j52 => fn_ix ((19 : Int32) + v3) 670 (fun j61 => (if (m 55 j52) ≠ (m 55 j61) then k69 m else k70 (1 : Int32) m)))))))
def fl_X6_round_16 (k : pw_Mem → Option (Int32 × pw_Mem))  : Nat → Int32 → pw_Mem → Option (Int32 × pw_Mem)
  | 0, _, _ => none
  | n + 1, v1, m => (if (200 : Int32) < v1 then k m else fn_bv (fn_X6_hourBy (38 : Int32) (0 : Int32) m) (fun m27 => fl_X6_round_34 (fun y34_2 m77 => (if y34_2 = 0 then fl_X6_round_16 k  n (v1 + 1) m77 else some (v1, m77))) v1 1000 (1 : Int32) (0 : Int32) m27))
def fn_X6_round  (μ : pw_Mem) : Option (Int32 × pw_Mem) :=
  fn_bi (fn_X6_isRoad μ) (fun r1 m1 => (if r1 ≠ 0 then fn_bv (fn_X6_tries m1) (fun m11 => fl_X6_round_16 (fun m89 => some ((-1000000 : Int32), m89))  1000 (1 : Int32) m11) else some ((-1000002 : Int32), m1)))
def fl_X6_best_51 (k : Int32 → Int32 → pw_Mem → Option (Int32 × pw_Mem)) (w1 : Int32) (w2 : Int32) (w3 : Int32) (w4 : Int32) : Nat → Int32 → Int32 → Int32 → pw_Mem → Option (Int32 × pw_Mem)
  | 0, _, _, _, _ => none
  | n + 1, v5, v6, v7, m => fn_ix (0 : Int32) 670 (fun j58 => (if (m 55 j58) ≤ v7 then k v5 v6 m else fn_bv (fn_X6_tries m) (fun m63 => fn_ix ((57 : Int32) + w1) 670 (fun j76 => fn_bv (fn_X6_goesOn w3 (pw_st m63 55 j76 v7)) (fun m79 => fn_ix ((67 : Int32) + w2) 670 (fun j90 => fn_bi (fn_X6_ones (m79 55 j90) m79) (fun r91 m91 => fn_jn1 (fun x110_0 m110 => fn_jn1 (fun x126_0 m126 => fl_X6_best_51 k w1 w2 w3 w4 n x110_0 x126_0 (v7 + 1) m126) (fun k126 => (if r91 ≤ v6 then k126 v6 m110 else k126 r91 m110))) (fun k110 => (if r91 ≤ v6 then k110 v5 m91 else k110 v7 m91)))))))))
def fn_X6_best (a1 : Int32) (a2 : Int32) (a3 : Int32) (a4 : Int32) (μ : pw_Mem) : Option (Int32 × pw_Mem) :=
  fn_bi (fn_X6_isPulpit a1 μ) (fun r2 m2 => (if r2 = 0 then some ((-1000001 : Int32), m2) else fn_bi (fn_X6_isStretch a2 m2) (fun r10 m10 => (if r10 = 0 then some ((-1000001 : Int32), m10) else fn_bi (fn_X6_in (a3).toInt64 (1 : Int64) (30 : Int64) m10) (fun r22 m22 => (if r22 = 0 then some ((-1000001 : Int32), m22) else fn_bi (fn_X6_in (a4).toInt64 (0 : Int64) (1 : Int64) m22) (fun r33 m33 => (if r33 ≠ 0 then fl_X6_best_51 (fun y51_5 y51_6 m134 => (if a4 ≠ 0 then some (y51_6, m134) else some (y51_5, m134))) a1 a2 a3 a4 1000 (0 : Int32) (-1 : Int32) (0 : Int32) m33 else some ((-1000001 : Int32), m33)))))))))
def fl_X6_piece_46 (k : Int32 → pw_Mem → Option (Int32 × pw_Mem)) (w1 : Int32) (w2 : Int32) (w3 : Int32) : Nat → Int32 → Int32 → pw_Mem → Option (Int32 × pw_Mem)
  | 0, _, _, _ => none
  | n + 1, v4, v5, m => fn_ix (0 : Int32) 670 (fun j53 => (if (m 55 j53) ≤ v5 then k v4 m else fn_bi (fn_X6_has w3 v5 m) (fun r62 m62 => fn_jn1 (fun x82_0 m82 => fl_X6_piece_46 k w1 w2 w3 n (v4 ||| x82_0) (v5 + 1) m82) (fun k82 => (if r62 = 0 then k82 (0 : Int32) m62 else fn_ix ((29 : Int32) + v5) 670 (fun j77 => k82 (m62 55 j77) m62))))))
def fl_X6_piece_28 (k : Int32 → pw_Mem → Option (Int32 × pw_Mem)) (w1 : Int32) : Nat → Int32 → Int32 → pw_Mem → Option (Int32 × pw_Mem)
  | 0, _, _, _ => none
  | n + 1, v2, v3, m => fn_ix (0 : Int32) 670 (fun j35 => (if ((1 : Int32) <<< ((m 55 j35) &&& 31)) ≤ v3 then k v2 m else fl_X6_piece_46 (fun y46_4 m91 => fn_bi (fn_X6_all (0 : Int32) m91) (fun r95 m95 => fn_jn1 (fun x121_0 m121 => fl_X6_piece_28 k w1 n x121_0 (v3 + 1) m121) (fun k121 => fn_jn0 (fun m120 => k121 v2 m120) (fun k120 => (if y46_4 ≠ r95 then k120 m95 else fn_jn0 (fun m116 => k121 v3 m116) (fun k116 => (if v2 < 0 then k116 m95 else fn_bi (fn_X6_ones v3 m95) (fun r106 m106 => fn_bi (fn_X6_ones v2 m106) (fun r110 m110 => (if r110 ≤ r106 then k120 m110 else k116 m110)))))))))) w1 v2 v3 1000 (0 : Int32) (0 : Int32) m))
def fn_X6_piece (a1 : Int32) (μ : pw_Mem) : Option (Int32 × pw_Mem) :=
  fn_bi (fn_X6_isRoad μ) (fun r1 m1 => (if r1 ≠ 0 then fn_bi (fn_X6_in (a1).toInt64 (0 : Int64) (1 : Int64) m1) (fun r14 m14 => (if r14 ≠ 0 then fl_X6_piece_28 (fun y28_2 m128 => (if 0 ≤ y28_2 then (if a1 ≠ 0 then some (y28_2, m128) else fn_bi (fn_X6_ones y28_2 m128) (fun r142 m142 => some (r142, m142))) else some ((-1000000 : Int32), m128))) a1 1000 (-1000000 : Int32) (1 : Int32) m14 else some ((-1000001 : Int32), m14))) else some ((-1000002 : Int32), m1)))
def fl_X6_laysSaid_21 (k : pw_Mem → Option (pw_Mem)) (w1 : Int32) (w2 : Int32) (w3 : Int32) : Nat → Int32 → pw_Mem → Option (pw_Mem)
  | 0, _, _ => none
  | n + 1, v4, m => (if (9 : Int32) ≤ v4 then k m else fn_ix (((9 : Int32) * w2) + v4) 72 (fun j40 => fl_X6_laysSaid_21 k w1 w2 w3 n (v4 + 1) (pw_st m 61 j40 (0 : Int32))))
def fl_X6_laysSaid_50 (k : pw_Mem → Option (pw_Mem)) (w1 : Int32) (w2 : Int32) (w3 : Int32) : Nat → Int32 → pw_Mem → Option (pw_Mem)
  | 0, _, _ => none
  | n + 1, v4, m => fn_ix (1 : Int32) 670 (fun j57 => (if (m 55 j57) ≤ v4 then k m else fn_ix ((57 : Int32) + v4) 670 (fun j78 => fn_ix (((9 : Int32) * w2) + (m 55 j78)) 72 (fun j81 => fn_bi (fn_X6_has w3 v4 m) (fun r85 m85 => fn_jn1 (fun x103_0 m103 => fn_ix (((9 : Int32) * w2) + (m 55 j78)) 72 (fun j104 => fl_X6_laysSaid_50 k w1 w2 w3 n (v4 + 1) (pw_st m103 61 j104 ((m 61 j81) ||| x103_0)))) (fun k103 => (if r85 = 0 then fn_bi (fn_X6_saysIn (38 : Int32) v4 m85) (fun r100 m100 => k103 r100 m100) else k103 (0 : Int32) m85)))))))
def fl_X6_laysSaid_6 (k : pw_Mem → Option (pw_Mem)) (w1 : Int32) : Nat → Int32 → pw_Mem → Option (pw_Mem)
  | 0, _, _ => none
  | n + 1, v2, m => (if w1 ≤ v2 then k m else fn_bi (fn_X6_councilsIn (38 : Int32) m) (fun r14 m14 => fl_X6_laysSaid_21 (fun m47 => fl_X6_laysSaid_50 (fun m111 => fn_bv (fn_X6_hourBy (38 : Int32) (0 : Int32) m111) (fun m115 => fl_X6_laysSaid_6 k w1 n (v2 + 1) m115)) w1 v2 r14 1000 (0 : Int32) m47) w1 v2 r14 1000 (0 : Int32) m14))
def fn_X6_laysSaid (a1 : Int32) (μ : pw_Mem) : Option (pw_Mem) :=
  fn_bv (fn_X6_tries μ) (fun m1 => fl_X6_laysSaid_6 (fun m124 => some m124) a1 1000 (0 : Int32) m1)
def fl_X6_walk_64 (k : Int32 → pw_Mem → Option (Int32 × pw_Mem)) (w1 : Int32) (w2 : Int32) (w3 : Int32) (w4 : Int32) (w5 : Int32) (w6 : Int32) : Nat → Int32 → Int32 → Int32 → pw_Mem → Option (Int32 × pw_Mem)
  | 0, _, _, _, _ => none
  | n + 1, v7, v8, v9, m => (if w2 ≤ v9 then k v8 m else fn_bi (fn_X6_has w6 v9 m) (fun r74 m74 => fn_jn1 (fun x96_0 m96 => fn_ix (((9 : Int32) * v9) + x96_0) 72 (fun j112 => fl_X6_walk_64 k w1 w2 w3 w4 w5 w6 n x96_0 (v8 ||| (m96 61 j112)) (v9 + 1) m96)) (fun k96 => (if r74 = 0 then k96 v7 m74 else fn_ix (0 : Int32) 670 (fun j89 => fn_nz (m74 55 j89) (k96 ((v7 + (1 : Int32)) - (v7 + (1 : Int32)) / (m74 55 j89) * (m74 55 j89)) m74))))))
def fl_X6_walk_47 (k : Int32 → Int32 → pw_Mem → Option (Int32 × pw_Mem)) (w1 : Int32) (w2 : Int32) (w3 : Int32) : Nat → Int32 → Int32 → Int32 → pw_Mem → Option (Int32 × pw_Mem)
  | 0, _, _, _, _ => none
  | n + 1, v4, v5, v6, m => (if ((1 : Int32) <<< (w2 &&& 31)) ≤ v6 then k v4 v5 m else fl_X6_walk_64 (fun y64_8 m122 => fn_bi (fn_X6_ones y64_8 m122) (fun r124 m124 => fn_jn1 (fun x139_0 m139 => fn_bi (fn_X6_ones y64_8 m139) (fun r143 m143 => fn_jn1 (fun x161_0 m161 => fl_X6_walk_47 k w1 w2 w3 n x139_0 x161_0 (v6 + 1) m161) (fun k161 => (if r143 ≤ v5 then k161 v5 m143 else fn_bi (fn_X6_ones y64_8 m143) (fun r153 m153 => k161 r153 m153))))) (fun k139 => (if r124 ≤ v5 then k139 v4 m124 else k139 v6 m124)))) w1 w2 w3 v4 v5 v6 1000 w1 (0 : Int32) (0 : Int32) m)
def fn_X6_walk (a1 : Int32) (a2 : Int32) (a3 : Int32) (μ : pw_Mem) : Option (Int32 × pw_Mem) :=
  fn_bi (fn_X6_isStretch a1 μ) (fun r2 m2 => (if r2 = 0 then some ((-1000001 : Int32), m2) else fn_bi (fn_X6_in (a2).toInt64 (1 : Int64) (8 : Int64) m2) (fun r14 m14 => (if r14 = 0 then some ((-1000001 : Int32), m14) else fn_bi (fn_X6_in (a3).toInt64 (0 : Int64) (1 : Int64) m14) (fun r24 m24 => (if r24 ≠ 0 then fn_bv (fn_X6_laysSaid a2 m24) (fun m35 => fl_X6_walk_47 (fun y47_4 y47_5 m169 => (if a3 ≠ 0 then some (y47_4, m169) else some (y47_5, m169))) a1 a2 a3 1000 (0 : Int32) (-1 : Int32) (0 : Int32) m35) else some ((-1000001 : Int32), m24)))))))
def fl_X6_isSo_6 (k : Int32 → pw_Mem → Option (Int32 × pw_Mem)) (w1 : Int32) (w2 : Int32) (w3 : Int32) : Nat → Int32 → Int32 → pw_Mem → Option (Int32 × pw_Mem)
  | 0, _, _, _ => none
  | n + 1, v4, v5, m => (if w3 ≤ v5 then k v4 m else (if v4 = 0 then k v4 m else fn_bv (fn_X6_hourBy (38 : Int32) (0 : Int32) m) (fun m21 => fn_ix ((57 : Int32) + w1) 670 (fun j32 => fn_ix (w2 + v5) 320 (fun j41 => fn_jn1 (fun x50_0 m50 => fl_X6_isSo_6 k w1 w2 w3 n x50_0 (v5 + 1) m50) (fun k50 => (if (m21 55 j32) ≠ (m21 59 j41) then k50 (0 : Int32) m21 else k50 (1 : Int32) m21)))))))
def fn_X6_isSo (a1 : Int32) (a2 : Int32) (a3 : Int32) (μ : pw_Mem) : Option (Int32 × pw_Mem) :=
  fl_X6_isSo_6 (fun y6_4 m58 => fn_bz y6_4 (some (y6_4, m58))) a1 a2 a3 1000 (1 : Int32) (0 : Int32) μ
def fl_X6_fits_163 (k : Int32 → pw_Mem → Option (Int32 × pw_Mem)) (w1 : Int32) (w2 : Int32) (w3 : Int32) (w4 : Int32) (w8 : Int32) (w9 : Int32) : Nat → Int32 → Int32 → pw_Mem → Option (Int32 × pw_Mem)
  | 0, _, _, _ => none
  | n + 1, v7, v10, m => (if w9 < v10 then k v7 m else fn_bv (fn_X6_tries m) (fun m171 => fn_ix ((38 : Int32) + w8) 670 (fun j185 => fn_bi (fn_X6_isSo w1 (((40 : Int32) * w2) + w3) w4 (pw_st m171 55 j185 v10)) (fun r198 m198 => fn_jn1 (fun x212_0 m212 => fl_X6_fits_163 k w1 w2 w3 w4 w8 w9 n (v7 ||| x212_0) (v10 + 1) m212) (fun k212 => (if r198 = 0 then k212 (0 : Int32) m198 else k212 ((1 : Int32) <<< (v10 &&& 31)) m198))))))
def fn_X6_fits (a1 : Int32) (a2 : Int32) (a3 : Int32) (a4 : Int32) (a5 : Int32) (μ : pw_Mem) : Option (Int32 × pw_Mem) :=
  fn_bi (fn_X6_isPulpit a1 μ) (fun r2 m2 => (if r2 = 0 then some ((-1000001 : Int32), m2) else fn_bi (fn_X6_isRow a2 m2) (fun r9 m9 => (if r9 = 0 then some ((-1000001 : Int32), m9) else fn_bi (fn_X6_in (a4).toInt64 (1 : Int64) (12 : Int64) m9) (fun r22 m22 => (if r22 = 0 then some ((-1000001 : Int32), m22) else fn_bi (fn_X6_in (a5).toInt64 (0 : Int64) (3 : Int64) m22) (fun r35 m35 => (if r35 ≠ 0 then fn_bi (fn_X6_against a2 a3 a4 m35) (fun r49 m49 => (if r49 ≤ 0 then fn_jn1 (fun x113_0 m113 => fn_jn1 (fun x149_0 m149 => fn_jn1 (fun x161_0 m161 => fl_X6_fits_163 (fun y163_7 m221 => some (y163_7, m221)) a1 a2 a3 a4 x113_0 x149_0 1000 (0 : Int32) x161_0 m161) (fun k161 => (if a5 ≠ 0 then k161 (0 : Int32) m149 else k161 (1 : Int32) m149))) (fun k149 => (if a5 ≠ 0 then (if a5 ≠ (1 : Int32) then fn_ix (2 : Int32) 670 (fun j146 => k149 ((m113 55 j146) - (1 : Int32)) m113) else fn_ix (0 : Int32) 670 (fun j135 => k149 ((m113 55 j135) - (1 : Int32)) m113)) else k149 (5 : Int32) m113))) (fun k113 => (if a5 ≠ 0 then (if a5 ≠ (1 : Int32) then (if a5 ≠ (2 : Int32) then k113 ((24 : Int32) + a1) (pw_st m49 54 5 (0 : Int32)) else k113 (3 : Int32) (pw_st m49 54 5 (0 : Int32))) else k113 ((19 : Int32) + a1) (pw_st m49 54 5 (0 : Int32))) else k113 ((13 : Int32) + a1) (pw_st m49 54 5 (0 : Int32)))) else fn_bi (fn_X6_finds r49 m49) (fun r62 m62 => some (r62, m62)))) else some ((-1000001 : Int32), m35)))))))))
def fl_X6_axles_61 (k : Int32 → pw_Mem → Option (Int32 × pw_Mem)) (w1 : Int32) (w2 : Int32) (w3 : Int32) (w4 : Int32) (w5 : Int32) : Nat → Int32 → Int32 → pw_Mem → Option (Int32 × pw_Mem)
  | 0, _, _, _ => none
  | n + 1, v6, v7, m => fn_ix (1 : Int32) 670 (fun j68 => (if (m 55 j68) ≤ v7 then k v6 m else fl_X6_axles_61 k w1 w2 w3 w4 w5 n (v6 * (10 : Int32)) (v7 + 1) m))
def fl_X6_axles_107 (k : Int32 → pw_Mem → Option (Int32 × pw_Mem)) (w1 : Int32) (w2 : Int32) (w3 : Int32) (w4 : Int32) (w5 : Int32) (w6 : Int32) (w7 : Int32) : Nat → Int32 → Int32 → pw_Mem → Option (Int32 × pw_Mem)
  | 0, _, _, _ => none
  | n + 1, v8, v9, m => fn_ix (1 : Int32) 670 (fun j114 => (if (m 55 j114) ≤ v9 then k v8 m else fn_bi (fn_X6_has w7 v9 m) (fun r124 m124 => fn_jn1 (fun x138_0 m138 => fl_X6_axles_107 k w1 w2 w3 w4 w5 w6 w7 n (v8 * x138_0) (v9 + 1) m138) (fun k138 => (if r124 = 0 then k138 ((10 : Int32) - w3) m124 else k138 w3 m124)))))
def fl_X6_axles_88 (k : Int32 → pw_Mem → Option (Int32 × pw_Mem)) (w1 : Int32) (w2 : Int32) (w3 : Int32) (w4 : Int32) (w6 : Int32) : Nat → Int32 → Int32 → pw_Mem → Option (Int32 × pw_Mem)
  | 0, _, _, _ => none
  | n + 1, v5, v7, m => fn_ix (1 : Int32) 670 (fun j96 => (if ((1 : Int32) <<< ((m 55 j96) &&& 31)) ≤ v7 then k v5 m else fl_X6_axles_107 (fun y107_8 m147 => fn_bv (fn_X6_tries m147) (fun m148 => fn_bv (fn_X6_hourBy (38 : Int32) v7 m148) (fun m156 => fn_ix ((67 : Int32) + w1) 670 (fun j169 => fn_bi (fn_X6_has (m156 55 j169) w2 m156) (fun r171 m171 => fn_jn1 (fun x183_0 m183 => fl_X6_axles_88 k w1 w2 w3 w4 w6 n (v5 + x183_0) (v7 + 1) m183) (fun k183 => (if r171 = 0 then k183 (0 : Int32) m171 else k183 y107_8 m171))))))) w1 w2 w3 w4 v5 w6 v7 1000 (1 : Int32) (0 : Int32) m))
def fl_X6_axles_200 (k : Int32 → pw_Mem → Option (Int32 × pw_Mem)) (w4 : Int32) (w5 : Int32) (w6 : Int32) : Nat → Int32 → Int32 → pw_Mem → Option (Int32 × pw_Mem)
  | 0, _, _, _ => none
  | n + 1, v7, v8, m => (if v8 = 0 then k v7 m else fn_nz v8 (fl_X6_axles_200 k w4 w5 w6 n v8 (v7 - v7 / v8 * v8) m))
def fn_X6_axles (a1 : Int32) (a2 : Int32) (a3 : Int32) (a4 : Int32) (μ : pw_Mem) : Option (Int32 × pw_Mem) :=
  fn_bi (fn_X6_isStretch a1 μ) (fun r2 m2 => (if r2 = 0 then some ((-1000001 : Int32), m2) else fn_ix (2 : Int32) 670 (fun j16 => fn_bi (fn_X6_in (a2).toInt64 (0 : Int64) (((m2 55 j16) - (1 : Int32))).toInt64 m2) (fun r20 m20 => (if r20 = 0 then some ((-1000001 : Int32), m20) else fn_bi (fn_X6_in (a3).toInt64 (0 : Int64) (10 : Int64) m20) (fun r32 m32 => (if r32 = 0 then some ((-1000001 : Int32), m32) else fn_bi (fn_X6_in (a4).toInt64 (0 : Int64) (1 : Int64) m32) (fun r43 m43 => (if r43 ≠ 0 then fl_X6_axles_61 (fun y61_6 m85 => fl_X6_axles_88 (fun y88_5 m192 => fl_X6_axles_200 (fun y200_7 m223 => (if a4 ≠ 0 then fn_nz y200_7 (some ((y61_6 / y200_7), m223)) else fn_nz y200_7 (some ((y88_5 / y200_7), m223)))) a4 y88_5 y61_6 1000 y88_5 y61_6 m192) a1 a2 a3 a4 y61_6 1000 (0 : Int32) (0 : Int32) m85) a1 a2 a3 a4 (0 : Int32) 1000 (1 : Int32) (0 : Int32) m43 else some ((-1000001 : Int32), m43))))))))))
def fl_X6_drawn_58 (k : pw_Mem → Option (Int32 × pw_Mem)) (w1 : Int32) (w3 : Int32) : Nat → Int64 → Int32 → pw_Mem → Option (Int32 × pw_Mem)
  | 0, _, _, _ => none
  | n + 1, v4, v6, m => (if w1 ≤ v6 then k m else fn_nzl (2147483647 : Int64) (fn_ix (1 : Int32) 670 (fun j81 => fn_jn0 (fun m126 => fn_bv (fn_X6_hourBy (38 : Int32) (0 : Int32) m126) (fun m130 => fl_X6_drawn_58 k w1 w3 n ((v4 * (16807 : Int64)) - (v4 * (16807 : Int64)) / (2147483647 : Int64) * (2147483647 : Int64)) (v6 + 1) m130)) (fun k126 => (if (m 55 j81) ≤ 0 then k126 m else fn_nzl (3 : Int64) ((if (lg_cmp (((v4 * (16807 : Int64)) - (v4 * (16807 : Int64)) / (2147483647 : Int64) * (2147483647 : Int64)) - ((v4 * (16807 : Int64)) - (v4 * (16807 : Int64)) / (2147483647 : Int64) * (2147483647 : Int64)) / (3 : Int64) * (3 : Int64)) (0 : Int64)) ≠ 0 then k126 m else fn_ix (1 : Int32) 670 (fun j109 => fn_nzl ((m 55 j109)).toInt64 (fn_ix (0 : Int32) 670 (fun j121 => fn_nzl ((m 55 j121)).toInt64 (fn_ix ((57 : Int32) + ((((v4 * (16807 : Int64)) - (v4 * (16807 : Int64)) / (2147483647 : Int64) * (2147483647 : Int64)) - ((v4 * (16807 : Int64)) - (v4 * (16807 : Int64)) / (2147483647 : Int64) * (2147483647 : Int64)) / ((m 55 j109)).toInt64 * ((m 55 j109)).toInt64)).toInt32) 670 (fun j125 => k126 (pw_st m 55 j125 ((((v4 * (16807 : Int64)) - (v4 * (16807 : Int64)) / (2147483647 : Int64) * (2147483647 : Int64)) - ((v4 * (16807 : Int64)) - (v4 * (16807 : Int64)) / (2147483647 : Int64) * (2147483647 : Int64)) / ((m 55 j121)).toInt64 * ((m 55 j121)).toInt64)).toInt32)))))))))))))
def fn_X6_drawn (a1 : Int32) (a2 : Int32) (a3 : Int32) (μ : pw_Mem) : Option (Int32 × pw_Mem) :=
  fn_bi (fn_X6_isRoad μ) (fun r1 m1 => (if r1 ≠ 0 then fn_bi (fn_X6_in (a1).toInt64 (0 : Int64) (60 : Int64) m1) (fun r16 m16 => (if r16 = 0 then some ((-1000001 : Int32), m16) else fn_bi (fn_X6_in (a2).toInt64 (1 : Int64) (999999 : Int64) m16) (fun r28 m28 => (if r28 = 0 then some ((-1000001 : Int32), m28) else fn_bi (fn_X6_in (a3).toInt64 (0 : Int64) (1 : Int64) m28) (fun r38 m38 => (if r38 ≠ 0 then fn_bv (fn_X6_tries m38) (fun m48 => fl_X6_drawn_58 (fun m139 => (if a3 ≠ 0 then fn_bi (fn_X6_wholeOnes (38 : Int32) m139) (fun r155 m155 => fn_bi (fn_X6_ones r155 m155) (fun r158 m158 => some (r158, m158))) else fn_bi (fn_X6_heardWords (38 : Int32) m139) (fun r146 m146 => some (r146, m146)))) a1 a3 1000 (a2).toInt64 (0 : Int32) m48) else some ((-1000001 : Int32), m38))))))) else some ((-1000002 : Int32), m1)))
def fn_X6_image (a1 : Int32) (μ : pw_Mem) : Option (Int32 × pw_Mem) :=
  fn_bi (fn_X6_in (a1).toInt64 (0 : Int64) (1 : Int64) μ) (fun r4 m4 => (if r4 ≠ 0 then fn_bi (fn_X6_isRoad m4) (fun r14 m14 => (if r14 ≠ 0 then fn_bv (fn_X6_copyOf (0 : Int32) ((76 : Int32) + ((38 : Int32) * a1)) (38 : Int32) m14) (fun m34 => some ((1 : Int32), m34)) else some ((-1000002 : Int32), m14))) else some ((-1000001 : Int32), m4)))
def fn_X6_restore (a1 : Int32) (μ : pw_Mem) : Option (Int32 × pw_Mem) :=
  fn_bi (fn_X6_in (a1).toInt64 (0 : Int64) (1 : Int64) μ) (fun r4 m4 => (if r4 ≠ 0 then fn_ix (((76 : Int32) + ((38 : Int32) * a1)) + (0 : Int32)) 670 (fun j26 => (if (m4 55 j26) ≠ 0 then fn_bv (fn_X6_copyOf ((76 : Int32) + ((38 : Int32) * a1)) (0 : Int32) (38 : Int32) m4) (fun m44 => some ((1 : Int32), (pw_st m44 54 1 (0 : Int32)))) else some ((-1000002 : Int32), m4))) else some ((-1000001 : Int32), m4)))
def fn_X6_kind (a1 : Int32) (μ : pw_Mem) : Option (Int32 × pw_Mem) :=
  fn_bi (fn_X6_isPulpit a1 μ) (fun r2 m2 => (if r2 = 0 then some ((-1000001 : Int32), m2) else fn_ix ((13 : Int32) + a1) 670 (fun j16 => some ((m2 55 j16), m2))))
def fn_X6_isA (a0 : Int32) (a1 : Int32) (μ : pw_Mem) : Option (Int32 × pw_Mem) :=
  fn_jn0 (fun m34 => fn_bz (1 : Int32) (some ((1 : Int32), m34))) (fun k34 => (if a1 = 0 then k34 μ else (if a1 = a0 then k34 μ else fn_jn0 (fun m24 => (if a1 ≠ (4 : Int32) then fn_bz (0 : Int32) (some ((0 : Int32), m24)) else (if a0 ≠ (5 : Int32) then fn_bz (0 : Int32) (some ((0 : Int32), m24)) else k34 m24))) (fun k24 => (if a1 ≠ (1 : Int32) then k24 μ else (if a0 = (2 : Int32) then k34 μ else (if a0 = (3 : Int32) then k34 μ else k24 μ)))))))
def fn_X6_as (a1 : Int32) (a2 : Int32) (μ : pw_Mem) : Option (Int32 × pw_Mem) :=
  fn_bi (fn_X6_isPulpit a1 μ) (fun r2 m2 => (if r2 = 0 then some ((-1000001 : Int32), m2) else fn_bi (fn_X6_in (a2).toInt64 (0 : Int64) (5 : Int64) m2) (fun r14 m14 => (if r14 ≠ 0 then fn_ix ((13 : Int32) + a1) 670 (fun j31 => fn_bi (fn_X6_isA (m14 55 j31) a2 m14) (fun r33 m33 => (if r33 ≠ 0 then some (a1, (pw_st m33 54 5 (0 : Int32))) else fn_bi (fn_X6_finds (3 : Int32) m33) (fun r41 m41 => some (r41, m41))))) else some ((-1000001 : Int32), m14)))))
def fn_X6_traces (a1 : Int32) (μ : pw_Mem) : Option (pw_Mem) :=
  (if (16 : Int32) ≤ (μ 54 15) then some μ else fn_ix (μ 54 15) 16 (fun j18 => some (pw_st (pw_st μ 62 j18 a1) 54 15 (((pw_st μ 62 j18 a1) 54 15) + (1 : Int32)))))
def fn_X6_size10 (a1 : Int32) (μ : pw_Mem) : Option (Int32 × pw_Mem) :=
  fn_bv (fn_X6_traces (10 : Int32) μ) (fun m3 => fn_ix ((24 : Int32) + a1) 670 (fun j14 => some ((m3 55 j14), m3)))
def fn_X6_mark20 (a1 : Int32) (μ : pw_Mem) : Option (Int32 × pw_Mem) :=
  fn_bv (fn_X6_traces (20 : Int32) μ) (fun m3 => some (a1, m3))
def fn_X6_mark21 (a1 : Int32) (μ : pw_Mem) : Option (Int32 × pw_Mem) :=
  fn_bv (fn_X6_traces (21 : Int32) μ) (fun m3 => fn_bi (fn_X6_mark20 a1 m3) (fun r8 m8 => fn_ix ((19 : Int32) + a1) 670 (fun j19 => some ((r8 + (m8 55 j19)), m8))))
def fn_X6_markOf (a1 : Int32) (μ : pw_Mem) : Option (Int32 × pw_Mem) :=
  fn_ix ((13 : Int32) + a1) 670 (fun j8 => (if (μ 55 j8) = 2 then fn_bv (fn_X6_traces (24 : Int32) μ) (fun m39 => fn_bi (fn_X6_mark21 a1 m39) (fun r45 m45 => some (((2 : Int32) * r45), m45))) else (if (μ 55 j8) = 3 then fn_bv (fn_X6_traces (22 : Int32) μ) (fun m53 => fn_bi (fn_X6_mark21 a1 m53) (fun r58 m58 => some ((r58 - (1000 : Int32)), m58))) else fn_bi (fn_X6_mark21 a1 μ) (fun r68 m68 => some (r68, m68)))))
def fn_X6_size11 (a1 : Int32) (μ : pw_Mem) : Option (Int32 × pw_Mem) :=
  fn_bv (fn_X6_traces (11 : Int32) μ) (fun m3 => fn_bi (fn_X6_size10 a1 m3) (fun r8 m8 => fn_bi (fn_X6_markOf a1 m8) (fun r15 m15 => some ((r8 + r15), m15))))
def fn_X6_size13 (a1 : Int32) (μ : pw_Mem) : Option (Int32 × pw_Mem) :=
  fn_bv (fn_X6_traces (13 : Int32) μ) (fun m3 => fn_bi (fn_X6_size10 a1 m3) (fun r8 m8 => some ((r8 - (100 : Int32)), m8)))
def fn_X6_sizeOf (a1 : Int32) (μ : pw_Mem) : Option (Int32 × pw_Mem) :=
  fn_ix ((13 : Int32) + a1) 670 (fun j8 => (if (μ 55 j8) = 2 then fn_bv (fn_X6_traces (12 : Int32) μ) (fun m43 => fn_bi (fn_X6_size11 a1 m43) (fun r48 m48 => some ((-r48), m48))) else (if (μ 55 j8) = 4 then fn_bi (fn_X6_size13 a1 μ) (fun r55 m55 => some (r55, m55)) else (if (μ 55 j8) = 5 then fn_bv (fn_X6_traces (14 : Int32) μ) (fun m62 => fn_bi (fn_X6_size13 a1 m62) (fun r68 m68 => some (((2 : Int32) * r68), m68))) else fn_bi (fn_X6_size11 a1 μ) (fun r75 m75 => some (r75, m75))))))
def fn_X6_mark23 (a1 : Int32) (μ : pw_Mem) : Option (Int32 × pw_Mem) :=
  fn_bv (fn_X6_traces (23 : Int32) μ) (fun m3 => fn_bi (fn_X6_mark20 a1 m3) (fun r8 m8 => fn_bi (fn_X6_sizeOf a1 m8) (fun r15 m15 => some ((r8 - r15), m15))))
def fn_X6_ask (a1 : Int32) (a2 : Int32) (μ : pw_Mem) : Option (Int32 × pw_Mem) :=
  fn_bi (fn_X6_isPulpit a1 μ) (fun r2 m2 => (if r2 = 0 then some ((-1000001 : Int32), m2) else fn_bi (fn_X6_in (a2).toInt64 (0 : Int64) (1 : Int64) m2) (fun r12 m12 => (if r12 ≠ 0 then (if a2 ≠ 0 then fn_ix ((13 : Int32) + a1) 670 (fun j46 => (if ((pw_st m12 54 15 (0 : Int32)) 55 j46) < (4 : Int32) then fn_bi (fn_X6_markOf a1 (pw_st m12 54 15 (0 : Int32))) (fun r61 m61 => some (r61, m61)) else fn_bi (fn_X6_mark23 a1 (pw_st m12 54 15 (0 : Int32))) (fun r53 m53 => some (r53, m53)))) else fn_bi (fn_X6_sizeOf a1 (pw_st m12 54 15 (0 : Int32))) (fun r32 m32 => some (r32, m32))) else some ((-1000001 : Int32), m12)))))
def fn_X6_trace (a1 : Int32) (μ : pw_Mem) : Option (Int32 × pw_Mem) :=
  fn_bi (fn_X6_in (a1).toInt64 (0 : Int64) (((μ 54 15) - (1 : Int32))).toInt64 μ) (fun r10 m10 => (if r10 = 0 then some ((-1000000 : Int32), m10) else fn_ix a1 16 (fun j21 => some ((m10 62 j21), m10))))
def fl_X6_rowsThere_4 (k : Int32 → pw_Mem → Option (Int32 × pw_Mem))  : Nat → Int32 → Int32 → pw_Mem → Option (Int32 × pw_Mem)
  | 0, _, _, _ => none
  | n + 1, v1, v2, m => (if (8 : Int32) ≤ v2 then k v1 m else fn_ix v2 8 (fun j16 => fn_jn1 (fun x25_0 m25 => fl_X6_rowsThere_4 k  n (v1 + x25_0) (v2 + 1) m25) (fun k25 => (if (m 57 j16) < 0 then k25 (0 : Int32) m else k25 (1 : Int32) m))))
def fn_X6_rowsThere  (μ : pw_Mem) : Option (Int32 × pw_Mem) :=
  fl_X6_rowsThere_4 (fun y4_1 m33 => some (y4_1, m33))  1000 (0 : Int32) (0 : Int32) μ
def fn_X6_count (a1 : Int32) (μ : pw_Mem) : Option (Int32 × pw_Mem) :=
  (if a1 = 0 then fn_bi (fn_X6_rowsThere μ) (fun r57 m57 => some (r57, m57)) else (if a1 = 1 then fn_ix (0 : Int32) 670 (fun j66 => some ((μ 55 j66), μ)) else (if a1 = 2 then fn_ix (1 : Int32) 670 (fun j73 => some ((μ 55 j73), μ)) else (if a1 = 3 then fn_ix (18 : Int32) 670 (fun j81 => some ((μ 55 j81), μ)) else (if a1 = 4 then fn_ix (2 : Int32) 670 (fun j88 => some ((μ 55 j88), μ)) else (if a1 = 5 then fn_ix (3 : Int32) 670 (fun j95 => some ((μ 55 j95), μ)) else (if a1 = 6 then some ((μ 54 1), μ) else (if a1 = 7 then some ((μ 54 3), μ) else (if a1 = 8 then fn_bi (fn_X6_wholeOnes (0 : Int32) μ) (fun r109 m109 => some (r109, m109)) else (if a1 = 9 then fn_bi (fn_X6_heardWords (0 : Int32) μ) (fun r115 m115 => some (r115, m115)) else some ((-1000001 : Int32), μ)))))))))))
def fn_X6_status  (μ : pw_Mem) : Option (Int32 × pw_Mem) :=
  some ((μ 54 5), μ)
def fn_X1_begin_w (f : Int32 → Nat → Int32 → Int32 → pw_Mem → Option (Int32 × pw_Mem)) (o1 : Nat) (a2 : Int32) (a3 : Int32) (a4 : Int32) (μ : pw_Mem) : Option (Int32 × pw_Mem) :=
  fn_ix a2 5 (fun j6 => fn_bi (fn_X1_bodyOf (μ (o1 + 3) j6) a3 μ) (fun r8 m8 => fn_bi (f r8 o1 a2 a4 m8) (fun r15 m15 => some (r15, m15))))
def fn_X1_give : Nat → Int32 → Nat → Int32 → Int32 → pw_Mem → Option (Int32 × pw_Mem)
  | 0, _, _, _, _, _ => none
  | n + 1, a1, o2, a3, a4, μ => (if a4 ≤ (16 : Int32) then fn_bv (fn_X1_leave a1 μ) (fun m11 => (if a1 = 10 then fn_ix a3 5 (fun j101 => some ((m11 (o2 + 5) j101), m11)) else (if a1 = 11 then fn_bi (fn_X1_give n (10 : Int32) o2 a3 (a4 + (1 : Int32)) m11) (fun r110 m110 => fn_bi (fn_X1_begin_w (fn_X1_give n) o2 a3 (1 : Int32) (a4 + (1 : Int32)) m110) (fun r119 m119 => some ((r110 + r119), m119))) else (if a1 = 12 then fn_bi (fn_X1_give n (11 : Int32) o2 a3 (a4 + (1 : Int32)) m11) (fun r131 m131 => some ((-r131), m131)) else (if a1 = 13 then fn_bi (fn_X1_give n (10 : Int32) o2 a3 (a4 + (1 : Int32)) m11) (fun r143 m143 => some ((r143 - (100 : Int32)), m143)) else (if a1 = 14 then fn_bi (fn_X1_give n (13 : Int32) o2 a3 (a4 + (1 : Int32)) m11) (fun r158 m158 => some (((2 : Int32) * r158), m158)) else (if a1 = 20 then some (a3, m11) else (if a1 = 21 then fn_bi (fn_X1_give n (20 : Int32) o2 a3 (a4 + (1 : Int32)) m11) (fun r172 m172 => fn_ix a3 5 (fun j180 => some ((r172 + (m172 (o2 + 4) j180)), m172))) else (if a1 = 22 then fn_bi (fn_X1_give n (21 : Int32) o2 a3 (a4 + (1 : Int32)) m11) (fun r190 m190 => some ((r190 - (1000 : Int32)), m190)) else (if a1 = 23 then fn_bi (fn_X1_give n (20 : Int32) o2 a3 (a4 + (1 : Int32)) m11) (fun r205 m205 => fn_bi (fn_X1_begin_w (fn_X1_give n) o2 a3 (0 : Int32) (a4 + (1 : Int32)) m205) (fun r214 m214 => some ((r205 - r214), m214))) else (if a1 = 24 then fn_bi (fn_X1_give n (21 : Int32) o2 a3 (a4 + (1 : Int32)) m11) (fun r227 m227 => some (((2 : Int32) * r227), m227)) else some ((0 : Int32), m11)))))))))))) else some ((0 : Int32), μ))
def fn_X1_begin (o1 : Nat) (a2 a3 a4 : Int32) (μ : pw_Mem) : Option (Int32 × pw_Mem) := fn_X1_begin_w (fn_X1_give 8) o1 a2 a3 a4 μ
def fn_X5_ask (a1 : Int32) (a2 : Int32) (μ : pw_Mem) : Option (Int32 × pw_Mem) :=
  fn_bi (fn_X5_isPulpit a1 μ) (fun r2 m2 => (if r2 = 0 then some ((-1000001 : Int32), m2) else fn_bi (fn_X5_isWithin a2 (0 : Int32) (1 : Int32) m2) (fun r11 m11 => (if r11 ≠ 0 then fn_bi (fn_X1_begin 4 a1 a2 (0 : Int32) (pw_st m11 22 1 (0 : Int32))) (fun r39 m39 => some (r39, m39)) else some ((-1000001 : Int32), m11)))))
