/-! ===== the model: what a command does ===== -/
def nOf (I : mIt) : Nat := (I 156 3).toNat
def mOf (I : mIt) : Nat := (I 156 2).toNat
def cOf (I : mIt) : Nat := (I 156 0).toNat
/-- what the operations ask of the row and of the counters -/
def DoOK (I : mIt) : Prop := (I 156 3 = (nOf I : Int) ∧ nOf I ≤ 6) ∧ (I 156 2 = (mOf I : Int) ∧ mOf I ≤ 3) ∧ (I 156 0 = (cOf I : Int) ∧ cOf I ≤ 7) ∧ (0 ≤ I 155 4 ∧ I 155 4 ≤ 4) ∧ ((0 ≤ I 156 5 ∧ I 156 5 ≤ 1999999990) ∧ (0 ≤ I 156 6 ∧ I 156 6 ≤ 1999999990) ∧ (0 ≤ I 156 1 ∧ I 156 1 ≤ 50000) ∧ (0 ≤ I 156 10 ∧ I 156 10 ≤ 9) ∧ (0 ≤ I 156 7 ∧ I 156 7 ≤ 2000000000) ∧ (0 ≤ I 156 4 ∧ I 156 4 ≤ 1999999990) ∧ (0 ≤ I 156 8 ∧ I 156 8 ≤ 99) ∧ (0 ≤ I 156 9 ∧ I 156 9 ≤ 99)) ∧ (∀ i : Int, 12 ≤ i → i < 20 → I 156 i < 7) ∧ oOK (I 156) (nOf I) ∧ vOK (I 156) ∧ (∀ i : Int, 0 ≤ i → i < (nOf I : Int) → 0 ≤ I 156 (111 + 7 * i + 5) ∧ I 156 (111 + 7 * i + 5) ≤ 3) ∧ (∀ name one other : Int, (0 ≤ name ∧ name ≤ 7) ∧ (0 ≤ one ∧ one ≤ 7) ∧ (0 ≤ other ∧ other ≤ 7) → gv1 (I 156) (nOf I) (mOf I) (cOf I) name one other = true → gv2 (I 156) (nOf I) (mOf I) (cOf I) name one other = true → (0 ≤ gvF (I 156) (nOf I) (mOf I) (cOf I) name one other ∧ gvF (I 156) (nOf I) (mOf I) (cOf I) name one other < 7) ∧ (0 ≤ gvG (I 156) (nOf I) (mOf I) (cOf I) name one other ∧ gvG (I 156) (nOf I) (mOf I) (cOf I) name one other < 7))
def doV (I : mIt) (w : Int) : Int := if w = 3 then pmV (I 156) (nOf I) (mOf I) (cOf I) (I 162 0) (I 162 1) else if w = 4 then cmV (I 156) (nOf I) (mOf I) (cOf I) (I 162 0) (I 162 1) else if w = 5 then mtV (I 156) (nOf I) (mOf I) (cOf I) (I 162 0) else if w = 6 then mmV (mOf I) else if w = 7 then kpV (mOf I) else if w = 8 then bkV (I 156) (nOf I) (mOf I) (I 162 0) else omV (I 156) (nOf I) (mOf I) (cOf I) w (I 162 0) (I 162 1) (I 162 2)
def doI (I : mIt) (w : Int) : mIt := if w = 3 then pmI I (nOf I) (mOf I) (cOf I) (I 162 0) (I 162 1) else if w = 4 then cmI I (nOf I) (mOf I) (cOf I) (I 162 0) (I 162 1) else if w = 5 then mtI I (nOf I) (mOf I) (cOf I) (I 162 0) else if w = 6 then mmI I (mOf I) else if w = 7 then kpI I (nOf I) (mOf I) (cOf I) else if w = 8 then bkI I (nOf I) (mOf I) (cOf I) (I 162 0) else omI I (nOf I) (mOf I) (cOf I) w (I 162 0) (I 162 1) (I 162 2)
set_option maxRecDepth 20000 in
set_option maxHeartbeats 4000000 in
theorem Fn_X6_does (k : Nat) (I : mIt) (P : mPt) (hM : isMd P) (hD : DoOK I) (w : Int) : WP (k + 8) mX6_does none (0, 0) (Rt (some (.inl (doV I w))) (lay0, doI I w, P)) 0 [(0, .inr (some 155)), (1, .inl w)] [] (lay0, I, P) := by
  obtain ⟨⟨hn, hn6⟩, ⟨hm, hm3⟩, ⟨hc, hc7⟩, hq, ⟨hs5, hs6, hs1, hs10, hs7, hs4, hs8, hs9⟩, hseat, hO, hV, hmk, hfa⟩ := hD
  refine r_iload_n (d := mX6_does) (pc := 0) (i := 1) (v := w) dX6_does_0 rfl rfl ?_
  by_cases hs1_3 : w = 3
  · rw [hs1_3]
    refine r_tableIn (d := mX6_does) (pc := 1) (tgt := 40) (off := 39) dX6_does_1 (by decide) (by decide) rfl (by decide) ?_
    refine r_aload_n (d := mX6_does) (pc := 40) (i := 0) (v := 155) dX6_does_40 rfl rfl ?_
    refine r_aload_n (d := mX6_does) (pc := 41) (i := 0) (v := 155) dX6_does_41 rfl rfl ?_
    refine r_getRs (d := mX6_does) (pc := 42) (a := 155) (kd := 6) (j := 12) (x := 162) dX6_does_42 flRX6_28 ly155 (by decide) (by decide) rfl hM.2.2.2.2.2.2 ?_
    refine r_iconst (d := mX6_does) (pc := 45) (n := 0) dX6_does_45 ?_
    refine r_ialds (d := mX6_does) (pc := 46) (a := 162) (x := (I 162 0)) dX6_does_46 ly162 (by decide) (by decide) (rfl) ?_
    refine r_aload_n (d := mX6_does) (pc := 47) (i := 0) (v := 155) dX6_does_47 rfl rfl ?_
    refine r_getRs (d := mX6_does) (pc := 48) (a := 155) (kd := 6) (j := 12) (x := 162) dX6_does_48 flRX6_28 ly155 (by decide) (by decide) rfl hM.2.2.2.2.2.2 ?_
    refine r_iconst (d := mX6_does) (pc := 51) (n := 1) dX6_does_51 ?_
    refine r_ialds (d := mX6_does) (pc := 52) (a := 162) (x := (I 162 1)) dX6_does_52 ly162 (by decide) (by decide) (rfl) ?_
    refine r_cV2 (d := mX6_does) (pc := 53) (dj := mX6_put) (a := 155) (kd := 6) dX6_does_53 mlRX6_158 inX6_put selX6_put rfl ly155 (by decide) okX6_put (by decide) rfl (Nat.le_of_ble_eq_true rfl) (by decide) (by decide) (Fn_X6_put (k + 2) I P hM (nOf I) hn hn6 (mOf I) hm hm3 (cOf I) hc hc7 hq (by omega) (by omega) (by omega) hs10 hs7 (I 162 0) (I 162 1)) ?_
    exact r_iret (d := mX6_does) (pc := 56) dX6_does_56 rfl (rtI (by unfold doV; repeat (first | rw [if_pos (by first | assumption | omega)] | rw [if_neg (by first | assumption | omega)])) (by refine memE ?_; unfold doI; repeat (first | rw [if_pos (by first | assumption | omega)] | rw [if_neg (by first | assumption | omega)]))) (by decide) (by decide)
  by_cases hs1_4 : w = 4
  · rw [hs1_4]
    refine r_tableIn (d := mX6_does) (pc := 1) (tgt := 57) (off := 56) dX6_does_1 (by decide) (by decide) rfl (by decide) ?_
    refine r_aload_n (d := mX6_does) (pc := 57) (i := 0) (v := 155) dX6_does_57 rfl rfl ?_
    refine r_aload_n (d := mX6_does) (pc := 58) (i := 0) (v := 155) dX6_does_58 rfl rfl ?_
    refine r_getRs (d := mX6_does) (pc := 59) (a := 155) (kd := 6) (j := 12) (x := 162) dX6_does_59 flRX6_28 ly155 (by decide) (by decide) rfl hM.2.2.2.2.2.2 ?_
    refine r_iconst (d := mX6_does) (pc := 62) (n := 0) dX6_does_62 ?_
    refine r_ialds (d := mX6_does) (pc := 63) (a := 162) (x := (I 162 0)) dX6_does_63 ly162 (by decide) (by decide) (rfl) ?_
    refine r_aload_n (d := mX6_does) (pc := 64) (i := 0) (v := 155) dX6_does_64 rfl rfl ?_
    refine r_getRs (d := mX6_does) (pc := 65) (a := 155) (kd := 6) (j := 12) (x := 162) dX6_does_65 flRX6_28 ly155 (by decide) (by decide) rfl hM.2.2.2.2.2.2 ?_
    refine r_iconst (d := mX6_does) (pc := 68) (n := 1) dX6_does_68 ?_
    refine r_ialds (d := mX6_does) (pc := 69) (a := 162) (x := (I 162 1)) dX6_does_69 ly162 (by decide) (by decide) (rfl) ?_
    refine r_cV2 (d := mX6_does) (pc := 70) (dj := mX6_copy) (a := 155) (kd := 6) dX6_does_70 mlRX6_161 inX6_copy selX6_copy rfl ly155 (by decide) okX6_copy (by decide) rfl (Nat.le_of_ble_eq_true rfl) (by decide) (by decide) (Fn_X6_copy (k + 1) I P hM (nOf I) hn hn6 (mOf I) hm hm3 (cOf I) hc hc7 hq (by omega) (by omega) (by omega) hs10 hs7 hseat (I 162 0) (I 162 1)) ?_
    exact r_iret (d := mX6_does) (pc := 73) dX6_does_73 rfl (rtI (by unfold doV; repeat (first | rw [if_pos (by first | assumption | omega)] | rw [if_neg (by first | assumption | omega)])) (by refine memE ?_; unfold doI; repeat (first | rw [if_pos (by first | assumption | omega)] | rw [if_neg (by first | assumption | omega)]))) (by decide) (by decide)
  by_cases hs1_5 : w = 5
  · rw [hs1_5]
    refine r_tableIn (d := mX6_does) (pc := 1) (tgt := 74) (off := 73) dX6_does_1 (by decide) (by decide) rfl (by decide) ?_
    refine r_aload_n (d := mX6_does) (pc := 74) (i := 0) (v := 155) dX6_does_74 rfl rfl ?_
    refine r_aload_n (d := mX6_does) (pc := 75) (i := 0) (v := 155) dX6_does_75 rfl rfl ?_
    refine r_getRs (d := mX6_does) (pc := 76) (a := 155) (kd := 6) (j := 12) (x := 162) dX6_does_76 flRX6_28 ly155 (by decide) (by decide) rfl hM.2.2.2.2.2.2 ?_
    refine r_iconst (d := mX6_does) (pc := 79) (n := 0) dX6_does_79 ?_
    refine r_ialds (d := mX6_does) (pc := 80) (a := 162) (x := (I 162 0)) dX6_does_80 ly162 (by decide) (by decide) (rfl) ?_
    refine r_cV1 (d := mX6_does) (pc := 81) (dj := mX6_tick) (a := 155) (kd := 6) dX6_does_81 mlRX6_164 inX6_tick selX6_tick rfl ly155 (by decide) okX6_tick (by decide) rfl (Nat.le_of_ble_eq_true rfl) (by decide) (by decide) (Fn_X6_tick (k + 2) I P hM (nOf I) hn hn6 (mOf I) hm hm3 (cOf I) hc hc7 hq hO hV hs4 (by omega) hs8 hs9 (I 162 0)) ?_
    exact r_iret (d := mX6_does) (pc := 84) dX6_does_84 rfl (rtI (by unfold doV; repeat (first | rw [if_pos (by first | assumption | omega)] | rw [if_neg (by first | assumption | omega)])) (by refine memE ?_; unfold doI; repeat (first | rw [if_pos (by first | assumption | omega)] | rw [if_neg (by first | assumption | omega)]))) (by decide) (by decide)
  by_cases hs1_6 : w = 6
  · rw [hs1_6]
    refine r_tableIn (d := mX6_does) (pc := 1) (tgt := 85) (off := 84) dX6_does_1 (by decide) (by decide) rfl (by decide) ?_
    refine r_aload_n (d := mX6_does) (pc := 85) (i := 0) (v := 155) dX6_does_85 rfl rfl ?_
    refine r_cV0 (d := mX6_does) (pc := 86) (dj := mX6_mark) (a := 155) (kd := 6) dX6_does_86 mlRX6_167 inX6_mark selX6_mark rfl ly155 (by decide) okX6_mark (by decide) rfl (Nat.le_of_ble_eq_true rfl) (by decide) (by decide) (Fn_X6_mark (k + 4) I P hM (mOf I) hm hm3 hq) ?_
    exact r_iret (d := mX6_does) (pc := 89) dX6_does_89 rfl (rtI (by unfold doV; repeat (first | rw [if_pos (by first | assumption | omega)] | rw [if_neg (by first | assumption | omega)])) (by refine memE ?_; unfold doI; repeat (first | rw [if_pos (by first | assumption | omega)] | rw [if_neg (by first | assumption | omega)]))) (by decide) (by decide)
  by_cases hs1_7 : w = 7
  · rw [hs1_7]
    refine r_tableIn (d := mX6_does) (pc := 1) (tgt := 90) (off := 89) dX6_does_1 (by decide) (by decide) rfl (by decide) ?_
    refine r_aload_n (d := mX6_does) (pc := 90) (i := 0) (v := 155) dX6_does_90 rfl rfl ?_
    refine r_cV0 (d := mX6_does) (pc := 91) (dj := mX6_keep) (a := 155) (kd := 6) dX6_does_91 mlRX6_171 inX6_keep selX6_keep rfl ly155 (by decide) okX6_keep (by decide) rfl (Nat.le_of_ble_eq_true rfl) (by decide) (by decide) (Fn_X6_keep (k + 4) I P hM (nOf I) hn hn6 (mOf I) hm hm3 (cOf I) hc hc7 hq hmk) ?_
    exact r_iret (d := mX6_does) (pc := 94) dX6_does_94 rfl (rtI (by unfold doV; repeat (first | rw [if_pos (by first | assumption | omega)] | rw [if_neg (by first | assumption | omega)])) (by refine memE ?_; unfold doI; repeat (first | rw [if_pos (by first | assumption | omega)] | rw [if_neg (by first | assumption | omega)]))) (by decide) (by decide)
  by_cases hs1_8 : w = 8
  · rw [hs1_8]
    refine r_tableIn (d := mX6_does) (pc := 1) (tgt := 95) (off := 94) dX6_does_1 (by decide) (by decide) rfl (by decide) ?_
    refine r_aload_n (d := mX6_does) (pc := 95) (i := 0) (v := 155) dX6_does_95 rfl rfl ?_
    refine r_aload_n (d := mX6_does) (pc := 96) (i := 0) (v := 155) dX6_does_96 rfl rfl ?_
    refine r_getRs (d := mX6_does) (pc := 97) (a := 155) (kd := 6) (j := 12) (x := 162) dX6_does_97 flRX6_28 ly155 (by decide) (by decide) rfl hM.2.2.2.2.2.2 ?_
    refine r_iconst (d := mX6_does) (pc := 100) (n := 0) dX6_does_100 ?_
    refine r_ialds (d := mX6_does) (pc := 101) (a := 162) (x := (I 162 0)) dX6_does_101 ly162 (by decide) (by decide) (rfl) ?_
    refine r_cV1 (d := mX6_does) (pc := 102) (dj := mX6_back) (a := 155) (kd := 6) dX6_does_102 mlRX6_174 inX6_back selX6_back rfl ly155 (by decide) okX6_back (by decide) rfl (Nat.le_of_ble_eq_true rfl) (by decide) (by decide) (Fn_X6_back (k + 3) I P hM (nOf I) hn hn6 (mOf I) hm hm3 (cOf I) hc hc7 hq (I 162 0)) ?_
    exact r_iret (d := mX6_does) (pc := 105) dX6_does_105 rfl (rtI (by unfold doV; repeat (first | rw [if_pos (by first | assumption | omega)] | rw [if_neg (by first | assumption | omega)])) (by refine memE ?_; unfold doI; repeat (first | rw [if_pos (by first | assumption | omega)] | rw [if_neg (by first | assumption | omega)]))) (by decide) (by decide)
  refine r_tableOut (d := mX6_does) (pc := 1) (tgt := 106) dX6_does_1 (by omega) (by decide) ?_
  refine r_aload_n (d := mX6_does) (pc := 106) (i := 0) (v := 155) dX6_does_106 rfl rfl ?_
  refine r_iload_n (d := mX6_does) (pc := 107) (i := 1) (v := w) dX6_does_107 rfl rfl ?_
  refine r_aload_n (d := mX6_does) (pc := 108) (i := 0) (v := 155) dX6_does_108 rfl rfl ?_
  refine r_getRs (d := mX6_does) (pc := 109) (a := 155) (kd := 6) (j := 12) (x := 162) dX6_does_109 flRX6_28 ly155 (by decide) (by decide) rfl hM.2.2.2.2.2.2 ?_
  refine r_iconst (d := mX6_does) (pc := 112) (n := 0) dX6_does_112 ?_
  refine r_ialds (d := mX6_does) (pc := 113) (a := 162) (x := (I 162 0)) dX6_does_113 ly162 (by decide) (by decide) (rfl) ?_
  refine r_aload_n (d := mX6_does) (pc := 114) (i := 0) (v := 155) dX6_does_114 rfl rfl ?_
  refine r_getRs (d := mX6_does) (pc := 115) (a := 155) (kd := 6) (j := 12) (x := 162) dX6_does_115 flRX6_28 ly155 (by decide) (by decide) rfl hM.2.2.2.2.2.2 ?_
  refine r_iconst (d := mX6_does) (pc := 118) (n := 1) dX6_does_118 ?_
  refine r_ialds (d := mX6_does) (pc := 119) (a := 162) (x := (I 162 1)) dX6_does_119 ly162 (by decide) (by decide) (rfl) ?_
  refine r_aload_n (d := mX6_does) (pc := 120) (i := 0) (v := 155) dX6_does_120 rfl rfl ?_
  refine r_getRs (d := mX6_does) (pc := 121) (a := 155) (kd := 6) (j := 12) (x := 162) dX6_does_121 flRX6_28 ly155 (by decide) (by decide) rfl hM.2.2.2.2.2.2 ?_
  refine r_iconst (d := mX6_does) (pc := 124) (n := 2) dX6_does_124 ?_
  refine r_ialds (d := mX6_does) (pc := 125) (a := 162) (x := (I 162 2)) dX6_does_125 ly162 (by decide) (by decide) (rfl) ?_
  refine r_cV4 (d := mX6_does) (pc := 126) (dj := mX6_order) (a := 155) (kd := 6) dX6_does_126 mlRX6_177 inX6_order selX6_order rfl ly155 (by decide) okX6_order (by decide) rfl (Nat.le_of_ble_eq_true rfl) (by decide) (by decide) (Fn_X6_order k I P hM (nOf I) hn hn6 (mOf I) hm hm3 (cOf I) hc hc7 hq (by omega) (by omega) (by omega) hs10 hs7 (by omega) (by omega) hseat w (I 162 0) (I 162 1) (I 162 2) (hfa _ _ _)) ?_
  exact r_iret (d := mX6_does) (pc := 129) dX6_does_129 rfl (rtI (by unfold doV; repeat (first | rw [if_pos (by first | assumption | omega)] | rw [if_neg (by first | assumption | omega)])) (by refine memE ?_; unfold doI; repeat (first | rw [if_pos (by first | assumption | omega)] | rw [if_neg (by first | assumption | omega)]))) (by decide) (by decide)
