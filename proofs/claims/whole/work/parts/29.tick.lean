/-! ===== the model: tick, set, mark, keep, back ===== -/
def chB (I : mIt) (s : Int → Int) : mIt := arS (mdB I (chP (I 155 5) (I 155 4) (I 157) (I 156)) (chQ (I 155 5) (I 155 4)) (I 159) (I 158)) 156 s
def mtB (s : Int → Int) (d : Int) : Int := if ¬ (1 ≤ d ∧ d ≤ 99) then -1 else if 50000 < s 1 + d then -3 else 0
def mtV (s : Int → Int) (n m nc : Nat) (d : Int) : Int := if ¬ (1 ≤ d ∧ d ≤ 99) then -1 else if 50000 < s 1 + d then -3 else (tkM s n m nc d.toNat).1 4 - s 4
def mtI (I : mIt) (n m nc : Nat) (d : Int) : mIt := if ¬ (1 ≤ d ∧ d ≤ 99) then I else if 50000 < I 156 1 + d then I else chB I (tkM (I 156) n m nc d.toNat).1
def stV (s : Int → Int) (w v : Int) : Int := if ((w = 0 ∨ w = 1) ∧ 1 ≤ v ∧ v ≤ 9) ∨ (w = 2 ∧ 0 ≤ v ∧ v ≤ 9) ∨ (w = 3 ∧ 1 ≤ v ∧ v ≤ 3) then s (8 + w) else -1
def stI (I : mIt) (w v : Int) : mIt := if ((w = 0 ∨ w = 1) ∧ 1 ≤ v ∧ v ≤ 9) ∨ (w = 2 ∧ 0 ≤ v ∧ v ≤ 9) ∨ (w = 3 ∧ 1 ≤ v ∧ v ≤ 3) then chB I (fset (I 156) (8 + w) v) else I
def mkA (s : Int → Int) (m : Nat) (j : Nat) : Int → Int := fun i => if 63 + 16 * (m : Int) ≤ i ∧ i < 63 + 16 * (m : Int) + (j : Int) then s (12 + (i - (63 + 16 * (m : Int)))) else s i
theorem mkA_0 (s : Int → Int) (m : Nat) : mkA s m 0 = s := by
  funext i
  unfold mkA
  rw [if_neg (by omega)]
theorem mkA_s (s : Int → Int) (m j : Nat) (hj : j < 16) : fset (mkA s m j) (63 + 16 * (m : Int) + (j : Int)) (s (12 + (j : Int))) = mkA s m (j + 1) := by
  funext i
  unfold fset
  by_cases h : i = 63 + 16 * (m : Int) + (j : Int)
  · rw [if_pos h]
    unfold mkA
    rw [if_pos (by omega), h]
    congr 1
    omega
  · rw [if_neg h]
    unfold mkA
    by_cases h2 : 63 + 16 * (m : Int) ≤ i ∧ i < 63 + 16 * (m : Int) + (j : Int)
    · rw [if_pos h2, if_pos (by omega)]
    · rw [if_neg h2, if_neg (by omega)]
theorem mkA_lo (s : Int → Int) (m j : Nat) {i : Int} (h : i < 63) : mkA s m j i = s i := by
  unfold mkA
  rw [if_neg (by omega)]
def mmV (m : Nat) : Int := if m = 3 then -3 else (m : Int)
def mmI (I : mIt) (m : Nat) : mIt := if m = 3 then I else chB I (fset (mkA (I 156) m 16) 2 ((m : Int) + 1))
set_option maxRecDepth 20000 in
set_option maxHeartbeats 4000000 in
theorem Fn_X6_tick (k : Nat) (I : mIt) (P : mPt) (hM : isMd P) (n : Nat) (hn : I 156 3 = n) (hn6 : n ≤ 6) (m : Nat) (hm : I 156 2 = m) (hm3 : m ≤ 3) (nc : Nat) (hc : I 156 0 = nc) (hc7 : nc ≤ 7) (hq : 0 ≤ I 155 4 ∧ I 155 4 ≤ 4) (hO : oOK (I 156) n) (hV : vOK (I 156)) (hs4 : 0 ≤ I 156 4 ∧ I 156 4 ≤ 1999999990) (hs1 : 0 ≤ I 156 1 ∧ I 156 1 ≤ 60000) (hs8 : 0 ≤ I 156 8 ∧ I 156 8 ≤ 99) (hs9 : 0 ≤ I 156 9 ∧ I 156 9 ≤ 99) (d : Int) : WP (k + 5) mX6_tick none (0, 0) (Rt (some (.inl (mtV (I 156) n m nc d))) (lay0, mtI I n m nc d, P)) 0 [(0, .inr (some 155)), (1, .inl d)] [] (lay0, I, P) := by
  refine r_iload_n (d := mX6_tick) (pc := 0) (i := 1) (v := d) dX6_tick_0 rfl rfl ?_
  refine r_iconst (d := mX6_tick) (pc := 1) (n := 1) dX6_tick_1 ?_
  refine r_bipush (d := mX6_tick) (pc := 2) (n := 99) dX6_tick_2 ?_
  refine r_cS3 (d := mX6_tick) (pc := 4) (dj := mX6_in) dX6_tick_4 mlRX6_43 staX6_in okX6_in (by decide) rfl (Nat.le_of_ble_eq_true rfl) (by decide) (by decide) (Fn_X6_in (k + 4) I P   d 1 99) ?_
  refine r_ifb_ne (d := mX6_tick) (pc := 7) (tgt := 12) dX6_tick_7 (by decide) (fun h7 => ?_) (fun h7 => ?_)
  · refine r_aload_n (d := mX6_tick) (pc := 12) (i := 0) (v := 155) dX6_tick_12 rfl rfl ?_
    refine r_getRs (d := mX6_tick) (pc := 13) (a := 155) (kd := 6) (j := 0) (x := 156) dX6_tick_13 flRX6_7 ly155 (by decide) (by decide) rfl hM.1 ?_
    refine r_iconst (d := mX6_tick) (pc := 16) (n := 1) dX6_tick_16 ?_
    refine r_ialds (d := mX6_tick) (pc := 17) (a := 156) (x := (I 156 1)) dX6_tick_17 ly156 (by decide) (by decide) (rfl) ?_
    refine r_iload_n (d := mX6_tick) (pc := 18) (i := 1) (v := d) dX6_tick_18 rfl rfl ?_
    refine r_iadd (d := mX6_tick) (pc := 19) dX6_tick_19 ?_
    refine r_ldc (d := mX6_tick) (pc := 20) (n := 50000) ctRX6_116 dX6_tick_20 ?_
    refine r_icmp_le (d := mX6_tick) (pc := 22) (tgt := 28) dX6_tick_22 (by decide) (fun h22 => ?_) (fun h22 => ?_)
    · refine r_aload_n (d := mX6_tick) (pc := 28) (i := 0) (v := 155) dX6_tick_28 rfl rfl ?_
      refine r_aload_n (d := mX6_tick) (pc := 29) (i := 0) (v := 155) dX6_tick_29 rfl rfl ?_
      refine r_getRs (d := mX6_tick) (pc := 30) (a := 155) (kd := 6) (j := 0) (x := 156) dX6_tick_30 flRX6_7 ly155 (by decide) (by decide) rfl hM.1 ?_
      refine r_cV1 (d := mX6_tick) (pc := 33) (dj := mX6_changes) (a := 155) (kd := 6) dX6_tick_33 mlRX6_81 inX6_changes selX6_changes rfl ly155 (by decide) okX6_changes (by decide) rfl (Nat.le_of_ble_eq_true rfl) (by decide) (by decide) (Fn_X6_changes (k + 4) I P hM hq 156 ly156 (by decide) (by decide)) ?_
      refine wpE (lv' := [(0, .inr (some 155)), (1, .inl d)]) (st' := []) (M' := (lay0, arS (mdB I (chP (I 155 5) (I 155 4) (I 157) (I 156)) (chQ (I 155 5) (I 155 4)) (I 159) (I 158)) 156 (I 156), P)) rfl rfl (by refine memE ?_; exact chI_0 _ _) ?_
      refine r_aload_n (d := mX6_tick) (pc := 36) (i := 0) (v := 155) dX6_tick_36 rfl rfl ?_
      refine r_getRs (d := mX6_tick) (pc := 37) (a := 155) (kd := 6) (j := 0) (x := 156) dX6_tick_37 flRX6_7 ly155 (by decide) (by decide) rfl hM.1 ?_
      refine r_iconst (d := mX6_tick) (pc := 40) (n := 4) dX6_tick_40 ?_
      refine r_ialds (d := mX6_tick) (pc := 41) (a := 156) (x := ((I 156) 4)) dX6_tick_41 ly156 (by decide) (by decide) (rfl) ?_
      refine r_istore_n (d := mX6_tick) (pc := 42) (i := 2) (lv' := [(0, .inr (some 155)), (1, .inl d), (2, .inl ((I 156) 4))]) dX6_tick_42 rfl (by decide) rfl rfl ?_
      refine r_iconst (d := mX6_tick) (pc := 43) (n := 0) dX6_tick_43 ?_
      refine r_istore_n (d := mX6_tick) (pc := 44) (i := 3) (lv' := [(0, .inr (some 155)), (1, .inl d), (2, .inl ((I 156) 4)), (3, .inl 0)]) dX6_tick_44 rfl (by decide) rfl rfl ?_
      have L45 : ∀ j : Nat, j ≤ d.toNat → WP (k + 5) mX6_tick none (0, 0) (Rt (some (.inl (mtV (I 156) n m nc d))) (lay0, mtI I n m nc d, P)) 45 [(0, .inr (some 155)), (1, .inl d), (2, .inl (I 156 4)), (3, .inl (j : Int))] [] (lay0, arS (mdB I (chP (I 155 5) (I 155 4) (I 157) (I 156)) (chQ (I 155 5) (I 155 4)) (I 159) (I 158)) 156 ((tkM (I 156) n m nc j).1), P) := by
        refine loopN (d.toNat) _ (fun j ih45 hj45 => ?_)
        refine r_iload_n (d := mX6_tick) (pc := 45) (i := 3) (v := (j : Int)) dX6_tick_45 rfl rfl ?_
        refine r_iload_n (d := mX6_tick) (pc := 46) (i := 1) (v := d) dX6_tick_46 rfl rfl ?_
        refine r_icmp_ge (d := mX6_tick) (pc := 47) (tgt := 60) dX6_tick_47 (by decide) (fun h47 => ?_) (fun h47 => ?_)
        · have hi8 := tkM_inv (m := m) hO hV hn hc7 j
          have hi7 := hi8.2.2.2.2.2.1
          have hi6 := hi8.2.2.2.2.2.2.1
          refine r_aload_n (d := mX6_tick) (pc := 60) (i := 0) (v := 155) dX6_tick_60 rfl rfl ?_
          refine r_getRs (d := mX6_tick) (pc := 61) (a := 155) (kd := 6) (j := 0) (x := 156) dX6_tick_61 flRX6_7 ly155 (by decide) (by decide) rfl hM.1 ?_
          refine r_iconst (d := mX6_tick) (pc := 64) (n := 4) dX6_tick_64 ?_
          refine r_ialds (d := mX6_tick) (pc := 65) (a := 156) (x := (((tkM (I 156) n m nc j).1) 4)) dX6_tick_65 ly156 (by decide) (by decide) (rfl) ?_
          refine r_iload_n (d := mX6_tick) (pc := 66) (i := 2) (v := (I 156 4)) dX6_tick_66 rfl rfl ?_
          refine r_isub (d := mX6_tick) (pc := 67) dX6_tick_67 ?_
          exact r_iret (d := mX6_tick) (pc := 68) dX6_tick_68 rfl (rtI (by rw [mtV, if_neg (by omega), if_neg (by omega), show j = d.toNat by omega]) (by refine memE ?_; rw [mtI, if_neg (by omega), if_neg (by omega), show j = d.toNat by omega]; rfl)) (by decide) (by decide)
        · have hi9 := tkM_inv (m := m) hO hV hn hc7 j
          refine r_aload_n (d := mX6_tick) (pc := 50) (i := 0) (v := 155) dX6_tick_50 rfl rfl ?_
          refine r_cV0 (d := mX6_tick) (pc := 51) (dj := mX6_ticks) (a := 155) (kd := 6) dX6_tick_51 mlRX6_117 inX6_ticks selX6_ticks rfl ly155 (by decide) okX6_ticks (by decide) rfl (Nat.le_of_ble_eq_true rfl) (by decide) (by decide) (Fn_X6_ticks k (arS (mdB I (chP (I 155 5) (I 155 4) (I 157) (I 156)) (chQ (I 155 5) (I 155 4)) (I 159) (I 158)) 156 ((tkM (I 156) n m nc j).1)) P hM (tkM (I 156) n m nc j).2 hi9.2.2.2.2.1 (by have := hi9.2.2.2.2.2.1; omega) m ((hi9.1 2 (by decide) (by decide) (by decide) (by decide)).trans hm) hm3 nc ((hi9.1 0 (by decide) (by decide) (by decide) (by decide)).trans hc) hc7 hi9.2.2.1 hi9.2.2.2.1 (by have e9 : ((tkM (I 156) n m nc j).1) 4 = _ := hi9.2.2.2.2.2.2.1; have e8 := hi9.2.2.2.2.2.1; show 0 ≤ ((tkM (I 156) n m nc j).1) 4 ∧ ((tkM (I 156) n m nc j).1) 4 ≤ _; omega) (by have e9 : ((tkM (I 156) n m nc j).1) 1 = I 156 1 + (j : Int) := hi9.2.2.2.2.2.2.2; show 0 ≤ ((tkM (I 156) n m nc j).1) 1 ∧ ((tkM (I 156) n m nc j).1) 1 ≤ _; omega) (by have e9 : ((tkM (I 156) n m nc j).1) 8 = I 156 8 := hi9.1 8 (by decide) (by decide) (by decide) (by decide); show 0 ≤ ((tkM (I 156) n m nc j).1) 8 ∧ ((tkM (I 156) n m nc j).1) 8 ≤ _; omega) (by have e9 : ((tkM (I 156) n m nc j).1) 9 = I 156 9 := hi9.1 9 (by decide) (by decide) (by decide) (by decide); show 0 ≤ ((tkM (I 156) n m nc j).1) 9 ∧ ((tkM (I 156) n m nc j).1) 9 ≤ _; omega)) ?_
          refine wpE (lv' := [(0, .inr (some 155)), (1, .inl d), (2, .inl (I 156 4)), (3, .inl (j : Int))]) (st' := []) (M' := (lay0, arS (mdB I (chP (I 155 5) (I 155 4) (I 157) (I 156)) (chQ (I 155 5) (I 155 4)) (I 159) (I 158)) 156 ((tkM (I 156) n m nc (j + 1)).1), P)) rfl rfl (memE (arS_arS _ _ _ _)) ?_
          refine r_iinc (d := mX6_tick) (pc := 54) (i := 3) (v := (j : Int)) (y := ((j + 1 : Nat) : Int)) (lv' := [(0, .inr (some 155)), (1, .inl d), (2, .inl (I 156 4)), (3, .inl ((j + 1 : Nat) : Int))]) dX6_tick_54 rfl (by decide) rfl (by omega) rfl ?_
          refine r_goto (d := mX6_tick) (pc := 57) (tgt := 45) dX6_tick_57 (by decide) ?_
          exact wpE (by simp) rfl (by rfl) (ih45 (by omega) (by omega))
      exact wpE (by simp) rfl (by rfl) (L45 0 (by omega))
    · refine r_bipush (d := mX6_tick) (pc := 25) (n := (-3)) dX6_tick_25 ?_
      exact r_iret (d := mX6_tick) (pc := 27) dX6_tick_27 rfl (rtI (by rw [mtV, if_neg (by omega), if_pos (by omega)]) (by refine memE ?_; rw [mtI, if_neg (by omega), if_pos (by omega)])) (by decide) (by decide)
  · refine r_iconst (d := mX6_tick) (pc := 10) (n := (-1)) dX6_tick_10 ?_
    exact r_iret (d := mX6_tick) (pc := 11) dX6_tick_11 rfl (rtI (by rw [mtV, if_pos (by omega)]) (by refine memE ?_; rw [mtI, if_pos (by omega)])) (by decide) (by decide)
set_option maxRecDepth 20000 in
set_option maxHeartbeats 4000000 in
theorem Fn_X6_set (k : Nat) (I : mIt) (P : mPt) (hM : isMd P) (hq : 0 ≤ I 155 4 ∧ I 155 4 ≤ 4) (w v : Int) : WP (k + 5) mX6_set none (0, 0) (Rt (some (.inl (stV (I 156) w v))) (lay0, stI I w v, P)) 0 [(0, .inr (some 155)), (1, .inl w), (2, .inl v)] [] (lay0, I, P) := by
  refine r_iload_n (d := mX6_set) (pc := 0) (i := 1) (v := w) dX6_set_0 rfl rfl ?_
  refine r_if_eq (d := mX6_set) (pc := 1) (tgt := 9) dX6_set_1 (by decide) (fun h1 => ?_) (fun h1 => ?_)
  · refine r_iload_n (d := mX6_set) (pc := 9) (i := 2) (v := v) dX6_set_9 rfl rfl ?_
    refine r_iconst (d := mX6_set) (pc := 10) (n := 1) dX6_set_10 ?_
    refine r_bipush (d := mX6_set) (pc := 11) (n := 9) dX6_set_11 ?_
    refine r_cS3 (d := mX6_set) (pc := 13) (dj := mX6_in) dX6_set_13 mlRX6_43 staX6_in okX6_in (by decide) rfl (Nat.le_of_ble_eq_true rfl) (by decide) (by decide) (Fn_X6_in (k + 4) I P   v 1 9) ?_
    refine r_goto (d := mX6_set) (pc := 16) (tgt := 53) dX6_set_16 (by decide) ?_
    refine r_istore_n (d := mX6_set) (pc := 53) (i := 3) (lv' := [(0, .inr (some 155)), (1, .inl w), (2, .inl v), (3, .inl (bI (1 ≤ v ∧ v ≤ 9)))]) dX6_set_53 rfl (by decide) rfl rfl ?_
    refine r_iload_n (d := mX6_set) (pc := 54) (i := 3) (v := bI (1 ≤ v ∧ v ≤ 9)) dX6_set_54 rfl rfl ?_
    refine r_ifb_ne (d := mX6_set) (pc := 55) (tgt := 60) dX6_set_55 (by decide) (fun h55 => ?_) (fun h55 => ?_)
    · refine r_aload_n (d := mX6_set) (pc := 60) (i := 0) (v := 155) dX6_set_60 rfl rfl ?_
      refine r_aload_n (d := mX6_set) (pc := 61) (i := 0) (v := 155) dX6_set_61 rfl rfl ?_
      refine r_getRs (d := mX6_set) (pc := 62) (a := 155) (kd := 6) (j := 0) (x := 156) dX6_set_62 flRX6_7 ly155 (by decide) (by decide) rfl hM.1 ?_
      refine r_cV1 (d := mX6_set) (pc := 65) (dj := mX6_changes) (a := 155) (kd := 6) dX6_set_65 mlRX6_81 inX6_changes selX6_changes rfl ly155 (by decide) okX6_changes (by decide) rfl (Nat.le_of_ble_eq_true rfl) (by decide) (by decide) (Fn_X6_changes (k + 4) I P hM hq 156 ly156 (by decide) (by decide)) ?_
      refine wpE (lv' := [(0, .inr (some 155)), (1, .inl w), (2, .inl v), (3, .inl (bI (1 ≤ v ∧ v ≤ 9)))]) (st' := []) (M' := (lay0, arS (mdB I (chP (I 155 5) (I 155 4) (I 157) (I 156)) (chQ (I 155 5) (I 155 4)) (I 159) (I 158)) 156 (I 156), P)) rfl rfl (by refine memE ?_; exact chI_0 _ _) ?_
      refine r_aload_n (d := mX6_set) (pc := 68) (i := 0) (v := 155) dX6_set_68 rfl rfl ?_
      refine r_getRs (d := mX6_set) (pc := 69) (a := 155) (kd := 6) (j := 0) (x := 156) dX6_set_69 flRX6_7 ly155 (by decide) (by decide) rfl hM.1 ?_
      refine r_bipush (d := mX6_set) (pc := 72) (n := 8) dX6_set_72 ?_
      refine r_iload_n (d := mX6_set) (pc := 74) (i := 1) (v := w) dX6_set_74 rfl rfl ?_
      refine r_iadd (d := mX6_set) (pc := 75) dX6_set_75 ?_
      refine r_ialds (d := mX6_set) (pc := 76) (a := 156) (x := ((I 156) (8 + w))) dX6_set_76 ly156 (by omega) (by omega) (rfl) ?_
      refine r_istore (d := mX6_set) (pc := 77) (i := 4) (lv' := [(0, .inr (some 155)), (1, .inl w), (2, .inl v), (3, .inl (bI (1 ≤ v ∧ v ≤ 9))), (4, .inl ((I 156) (8 + w)))]) dX6_set_77 (by decide) rfl rfl ?_
      refine r_aload_n (d := mX6_set) (pc := 79) (i := 0) (v := 155) dX6_set_79 rfl rfl ?_
      refine r_getRs (d := mX6_set) (pc := 80) (a := 155) (kd := 6) (j := 0) (x := 156) dX6_set_80 flRX6_7 ly155 (by decide) (by decide) rfl hM.1 ?_
      refine r_bipush (d := mX6_set) (pc := 83) (n := 8) dX6_set_83 ?_
      refine r_iload_n (d := mX6_set) (pc := 85) (i := 1) (v := w) dX6_set_85 rfl rfl ?_
      refine r_iadd (d := mX6_set) (pc := 86) dX6_set_86 ?_
      refine r_iload_n (d := mX6_set) (pc := 87) (i := 2) (v := v) dX6_set_87 rfl rfl ?_
      refine r_iasts (d := mX6_set) (pc := 88) (a := 156) (lay0, arS (mdB I (chP (I 155 5) (I 155 4) (I 157) (I 156)) (chQ (I 155 5) (I 155 4)) (I 159) (I 158)) 156 (fset (I 156) (8 + w) v), P) dX6_set_88 ly156 (by omega) (by omega) (memE (arS_up _ _ _ _ _)) ?_
      refine r_iload (d := mX6_set) (pc := 89) (i := 4) (v := ((I 156) (8 + w))) dX6_set_89 rfl ?_
      exact r_iret (d := mX6_set) (pc := 91) dX6_set_91 rfl (rtI (by first | rw [stV, if_pos (by omega)] | rw [stV, if_neg (by omega)]) (by refine memE ?_; first | (rw [stI, if_pos (by omega)]; rfl) | rw [stI, if_neg (by omega)])) (by decide) (by decide)
    · refine r_iconst (d := mX6_set) (pc := 58) (n := (-1)) dX6_set_58 ?_
      exact r_iret (d := mX6_set) (pc := 59) dX6_set_59 rfl (rtI (by first | rw [stV, if_pos (by omega)] | rw [stV, if_neg (by omega)]) (by refine memE ?_; first | (rw [stI, if_pos (by omega)]; rfl) | rw [stI, if_neg (by omega)])) (by decide) (by decide)
  · refine r_iload_n (d := mX6_set) (pc := 4) (i := 1) (v := w) dX6_set_4 rfl rfl ?_
    refine r_iconst (d := mX6_set) (pc := 5) (n := 1) dX6_set_5 ?_
    refine r_icmp_ne (d := mX6_set) (pc := 6) (tgt := 19) dX6_set_6 (by decide) (fun h6 => ?_) (fun h6 => ?_)
    · refine r_iload_n (d := mX6_set) (pc := 19) (i := 1) (v := w) dX6_set_19 rfl rfl ?_
      refine r_iconst (d := mX6_set) (pc := 20) (n := 2) dX6_set_20 ?_
      refine r_icmp_ne (d := mX6_set) (pc := 21) (tgt := 34) dX6_set_21 (by decide) (fun h21 => ?_) (fun h21 => ?_)
      · refine r_iload_n (d := mX6_set) (pc := 34) (i := 1) (v := w) dX6_set_34 rfl rfl ?_
        refine r_iconst (d := mX6_set) (pc := 35) (n := 3) dX6_set_35 ?_
        refine r_icmp_ne (d := mX6_set) (pc := 36) (tgt := 52) dX6_set_36 (by decide) (fun h36 => ?_) (fun h36 => ?_)
        · refine r_iconst (d := mX6_set) (pc := 52) (n := 0) dX6_set_52 ?_
          refine r_istore_n (d := mX6_set) (pc := 53) (i := 3) (lv' := [(0, .inr (some 155)), (1, .inl w), (2, .inl v), (3, .inl 0)]) dX6_set_53 rfl (by decide) rfl rfl ?_
          refine r_iload_n (d := mX6_set) (pc := 54) (i := 3) (v := 0) dX6_set_54 rfl rfl ?_
          refine r_if_ne (d := mX6_set) (pc := 55) (tgt := 60) dX6_set_55 (by decide) (fun q => absurd q (by decide)) (fun _ => ?_)
          refine r_iconst (d := mX6_set) (pc := 58) (n := (-1)) dX6_set_58 ?_
          exact r_iret (d := mX6_set) (pc := 59) dX6_set_59 rfl (rtI (by first | rw [stV, if_pos (by omega)] | rw [stV, if_neg (by omega)]) (by refine memE ?_; first | (rw [stI, if_pos (by omega)]; rfl) | rw [stI, if_neg (by omega)])) (by decide) (by decide)
        · refine r_iload_n (d := mX6_set) (pc := 39) (i := 2) (v := v) dX6_set_39 rfl rfl ?_
          refine r_iconst (d := mX6_set) (pc := 40) (n := 1) dX6_set_40 ?_
          refine r_iconst (d := mX6_set) (pc := 41) (n := 3) dX6_set_41 ?_
          refine r_cS3 (d := mX6_set) (pc := 42) (dj := mX6_in) dX6_set_42 mlRX6_43 staX6_in okX6_in (by decide) rfl (Nat.le_of_ble_eq_true rfl) (by decide) (by decide) (Fn_X6_in (k + 4) I P   v 1 3) ?_
          refine r_ifb_eq (d := mX6_set) (pc := 45) (tgt := 52) dX6_set_45 (by decide) (fun h45 => ?_) (fun h45 => ?_)
          · refine r_iconst (d := mX6_set) (pc := 52) (n := 0) dX6_set_52 ?_
            refine r_istore_n (d := mX6_set) (pc := 53) (i := 3) (lv' := [(0, .inr (some 155)), (1, .inl w), (2, .inl v), (3, .inl 0)]) dX6_set_53 rfl (by decide) rfl rfl ?_
            refine r_iload_n (d := mX6_set) (pc := 54) (i := 3) (v := 0) dX6_set_54 rfl rfl ?_
            refine r_if_ne (d := mX6_set) (pc := 55) (tgt := 60) dX6_set_55 (by decide) (fun q => absurd q (by decide)) (fun _ => ?_)
            refine r_iconst (d := mX6_set) (pc := 58) (n := (-1)) dX6_set_58 ?_
            exact r_iret (d := mX6_set) (pc := 59) dX6_set_59 rfl (rtI (by first | rw [stV, if_pos (by omega)] | rw [stV, if_neg (by omega)]) (by refine memE ?_; first | (rw [stI, if_pos (by omega)]; rfl) | rw [stI, if_neg (by omega)])) (by decide) (by decide)
          · refine r_iconst (d := mX6_set) (pc := 48) (n := 1) dX6_set_48 ?_
            refine r_goto (d := mX6_set) (pc := 49) (tgt := 53) dX6_set_49 (by decide) ?_
            refine r_istore_n (d := mX6_set) (pc := 53) (i := 3) (lv' := [(0, .inr (some 155)), (1, .inl w), (2, .inl v), (3, .inl 1)]) dX6_set_53 rfl (by decide) rfl rfl ?_
            refine r_iload_n (d := mX6_set) (pc := 54) (i := 3) (v := 1) dX6_set_54 rfl rfl ?_
            refine r_if_ne (d := mX6_set) (pc := 55) (tgt := 60) dX6_set_55 (by decide) (fun _ => ?_) (fun q => absurd q (by decide))
            refine r_aload_n (d := mX6_set) (pc := 60) (i := 0) (v := 155) dX6_set_60 rfl rfl ?_
            refine r_aload_n (d := mX6_set) (pc := 61) (i := 0) (v := 155) dX6_set_61 rfl rfl ?_
            refine r_getRs (d := mX6_set) (pc := 62) (a := 155) (kd := 6) (j := 0) (x := 156) dX6_set_62 flRX6_7 ly155 (by decide) (by decide) rfl hM.1 ?_
            refine r_cV1 (d := mX6_set) (pc := 65) (dj := mX6_changes) (a := 155) (kd := 6) dX6_set_65 mlRX6_81 inX6_changes selX6_changes rfl ly155 (by decide) okX6_changes (by decide) rfl (Nat.le_of_ble_eq_true rfl) (by decide) (by decide) (Fn_X6_changes (k + 4) I P hM hq 156 ly156 (by decide) (by decide)) ?_
            refine wpE (lv' := [(0, .inr (some 155)), (1, .inl w), (2, .inl v), (3, .inl 1)]) (st' := []) (M' := (lay0, arS (mdB I (chP (I 155 5) (I 155 4) (I 157) (I 156)) (chQ (I 155 5) (I 155 4)) (I 159) (I 158)) 156 (I 156), P)) rfl rfl (by refine memE ?_; exact chI_0 _ _) ?_
            refine r_aload_n (d := mX6_set) (pc := 68) (i := 0) (v := 155) dX6_set_68 rfl rfl ?_
            refine r_getRs (d := mX6_set) (pc := 69) (a := 155) (kd := 6) (j := 0) (x := 156) dX6_set_69 flRX6_7 ly155 (by decide) (by decide) rfl hM.1 ?_
            refine r_bipush (d := mX6_set) (pc := 72) (n := 8) dX6_set_72 ?_
            refine r_iload_n (d := mX6_set) (pc := 74) (i := 1) (v := w) dX6_set_74 rfl rfl ?_
            refine r_iadd (d := mX6_set) (pc := 75) dX6_set_75 ?_
            refine r_ialds (d := mX6_set) (pc := 76) (a := 156) (x := ((I 156) (8 + w))) dX6_set_76 ly156 (by omega) (by omega) (rfl) ?_
            refine r_istore (d := mX6_set) (pc := 77) (i := 4) (lv' := [(0, .inr (some 155)), (1, .inl w), (2, .inl v), (3, .inl 1), (4, .inl ((I 156) (8 + w)))]) dX6_set_77 (by decide) rfl rfl ?_
            refine r_aload_n (d := mX6_set) (pc := 79) (i := 0) (v := 155) dX6_set_79 rfl rfl ?_
            refine r_getRs (d := mX6_set) (pc := 80) (a := 155) (kd := 6) (j := 0) (x := 156) dX6_set_80 flRX6_7 ly155 (by decide) (by decide) rfl hM.1 ?_
            refine r_bipush (d := mX6_set) (pc := 83) (n := 8) dX6_set_83 ?_
            refine r_iload_n (d := mX6_set) (pc := 85) (i := 1) (v := w) dX6_set_85 rfl rfl ?_
            refine r_iadd (d := mX6_set) (pc := 86) dX6_set_86 ?_
            refine r_iload_n (d := mX6_set) (pc := 87) (i := 2) (v := v) dX6_set_87 rfl rfl ?_
            refine r_iasts (d := mX6_set) (pc := 88) (a := 156) (lay0, arS (mdB I (chP (I 155 5) (I 155 4) (I 157) (I 156)) (chQ (I 155 5) (I 155 4)) (I 159) (I 158)) 156 (fset (I 156) (8 + w) v), P) dX6_set_88 ly156 (by omega) (by omega) (memE (arS_up _ _ _ _ _)) ?_
            refine r_iload (d := mX6_set) (pc := 89) (i := 4) (v := ((I 156) (8 + w))) dX6_set_89 rfl ?_
            exact r_iret (d := mX6_set) (pc := 91) dX6_set_91 rfl (rtI (by first | rw [stV, if_pos (by omega)] | rw [stV, if_neg (by omega)]) (by refine memE ?_; first | (rw [stI, if_pos (by omega)]; rfl) | rw [stI, if_neg (by omega)])) (by decide) (by decide)
      · refine r_iload_n (d := mX6_set) (pc := 24) (i := 2) (v := v) dX6_set_24 rfl rfl ?_
        refine r_iconst (d := mX6_set) (pc := 25) (n := 0) dX6_set_25 ?_
        refine r_bipush (d := mX6_set) (pc := 26) (n := 9) dX6_set_26 ?_
        refine r_cS3 (d := mX6_set) (pc := 28) (dj := mX6_in) dX6_set_28 mlRX6_43 staX6_in okX6_in (by decide) rfl (Nat.le_of_ble_eq_true rfl) (by decide) (by decide) (Fn_X6_in (k + 4) I P   v 0 9) ?_
        refine r_goto (d := mX6_set) (pc := 31) (tgt := 53) dX6_set_31 (by decide) ?_
        refine r_istore_n (d := mX6_set) (pc := 53) (i := 3) (lv' := [(0, .inr (some 155)), (1, .inl w), (2, .inl v), (3, .inl (bI (0 ≤ v ∧ v ≤ 9)))]) dX6_set_53 rfl (by decide) rfl rfl ?_
        refine r_iload_n (d := mX6_set) (pc := 54) (i := 3) (v := bI (0 ≤ v ∧ v ≤ 9)) dX6_set_54 rfl rfl ?_
        refine r_ifb_ne (d := mX6_set) (pc := 55) (tgt := 60) dX6_set_55 (by decide) (fun h55 => ?_) (fun h55 => ?_)
        · refine r_aload_n (d := mX6_set) (pc := 60) (i := 0) (v := 155) dX6_set_60 rfl rfl ?_
          refine r_aload_n (d := mX6_set) (pc := 61) (i := 0) (v := 155) dX6_set_61 rfl rfl ?_
          refine r_getRs (d := mX6_set) (pc := 62) (a := 155) (kd := 6) (j := 0) (x := 156) dX6_set_62 flRX6_7 ly155 (by decide) (by decide) rfl hM.1 ?_
          refine r_cV1 (d := mX6_set) (pc := 65) (dj := mX6_changes) (a := 155) (kd := 6) dX6_set_65 mlRX6_81 inX6_changes selX6_changes rfl ly155 (by decide) okX6_changes (by decide) rfl (Nat.le_of_ble_eq_true rfl) (by decide) (by decide) (Fn_X6_changes (k + 4) I P hM hq 156 ly156 (by decide) (by decide)) ?_
          refine wpE (lv' := [(0, .inr (some 155)), (1, .inl w), (2, .inl v), (3, .inl (bI (0 ≤ v ∧ v ≤ 9)))]) (st' := []) (M' := (lay0, arS (mdB I (chP (I 155 5) (I 155 4) (I 157) (I 156)) (chQ (I 155 5) (I 155 4)) (I 159) (I 158)) 156 (I 156), P)) rfl rfl (by refine memE ?_; exact chI_0 _ _) ?_
          refine r_aload_n (d := mX6_set) (pc := 68) (i := 0) (v := 155) dX6_set_68 rfl rfl ?_
          refine r_getRs (d := mX6_set) (pc := 69) (a := 155) (kd := 6) (j := 0) (x := 156) dX6_set_69 flRX6_7 ly155 (by decide) (by decide) rfl hM.1 ?_
          refine r_bipush (d := mX6_set) (pc := 72) (n := 8) dX6_set_72 ?_
          refine r_iload_n (d := mX6_set) (pc := 74) (i := 1) (v := w) dX6_set_74 rfl rfl ?_
          refine r_iadd (d := mX6_set) (pc := 75) dX6_set_75 ?_
          refine r_ialds (d := mX6_set) (pc := 76) (a := 156) (x := ((I 156) (8 + w))) dX6_set_76 ly156 (by omega) (by omega) (rfl) ?_
          refine r_istore (d := mX6_set) (pc := 77) (i := 4) (lv' := [(0, .inr (some 155)), (1, .inl w), (2, .inl v), (3, .inl (bI (0 ≤ v ∧ v ≤ 9))), (4, .inl ((I 156) (8 + w)))]) dX6_set_77 (by decide) rfl rfl ?_
          refine r_aload_n (d := mX6_set) (pc := 79) (i := 0) (v := 155) dX6_set_79 rfl rfl ?_
          refine r_getRs (d := mX6_set) (pc := 80) (a := 155) (kd := 6) (j := 0) (x := 156) dX6_set_80 flRX6_7 ly155 (by decide) (by decide) rfl hM.1 ?_
          refine r_bipush (d := mX6_set) (pc := 83) (n := 8) dX6_set_83 ?_
          refine r_iload_n (d := mX6_set) (pc := 85) (i := 1) (v := w) dX6_set_85 rfl rfl ?_
          refine r_iadd (d := mX6_set) (pc := 86) dX6_set_86 ?_
          refine r_iload_n (d := mX6_set) (pc := 87) (i := 2) (v := v) dX6_set_87 rfl rfl ?_
          refine r_iasts (d := mX6_set) (pc := 88) (a := 156) (lay0, arS (mdB I (chP (I 155 5) (I 155 4) (I 157) (I 156)) (chQ (I 155 5) (I 155 4)) (I 159) (I 158)) 156 (fset (I 156) (8 + w) v), P) dX6_set_88 ly156 (by omega) (by omega) (memE (arS_up _ _ _ _ _)) ?_
          refine r_iload (d := mX6_set) (pc := 89) (i := 4) (v := ((I 156) (8 + w))) dX6_set_89 rfl ?_
          exact r_iret (d := mX6_set) (pc := 91) dX6_set_91 rfl (rtI (by first | rw [stV, if_pos (by omega)] | rw [stV, if_neg (by omega)]) (by refine memE ?_; first | (rw [stI, if_pos (by omega)]; rfl) | rw [stI, if_neg (by omega)])) (by decide) (by decide)
        · refine r_iconst (d := mX6_set) (pc := 58) (n := (-1)) dX6_set_58 ?_
          exact r_iret (d := mX6_set) (pc := 59) dX6_set_59 rfl (rtI (by first | rw [stV, if_pos (by omega)] | rw [stV, if_neg (by omega)]) (by refine memE ?_; first | (rw [stI, if_pos (by omega)]; rfl) | rw [stI, if_neg (by omega)])) (by decide) (by decide)
    · refine r_iload_n (d := mX6_set) (pc := 9) (i := 2) (v := v) dX6_set_9 rfl rfl ?_
      refine r_iconst (d := mX6_set) (pc := 10) (n := 1) dX6_set_10 ?_
      refine r_bipush (d := mX6_set) (pc := 11) (n := 9) dX6_set_11 ?_
      refine r_cS3 (d := mX6_set) (pc := 13) (dj := mX6_in) dX6_set_13 mlRX6_43 staX6_in okX6_in (by decide) rfl (Nat.le_of_ble_eq_true rfl) (by decide) (by decide) (Fn_X6_in (k + 4) I P   v 1 9) ?_
      refine r_goto (d := mX6_set) (pc := 16) (tgt := 53) dX6_set_16 (by decide) ?_
      refine r_istore_n (d := mX6_set) (pc := 53) (i := 3) (lv' := [(0, .inr (some 155)), (1, .inl w), (2, .inl v), (3, .inl (bI (1 ≤ v ∧ v ≤ 9)))]) dX6_set_53 rfl (by decide) rfl rfl ?_
      refine r_iload_n (d := mX6_set) (pc := 54) (i := 3) (v := bI (1 ≤ v ∧ v ≤ 9)) dX6_set_54 rfl rfl ?_
      refine r_ifb_ne (d := mX6_set) (pc := 55) (tgt := 60) dX6_set_55 (by decide) (fun h55 => ?_) (fun h55 => ?_)
      · refine r_aload_n (d := mX6_set) (pc := 60) (i := 0) (v := 155) dX6_set_60 rfl rfl ?_
        refine r_aload_n (d := mX6_set) (pc := 61) (i := 0) (v := 155) dX6_set_61 rfl rfl ?_
        refine r_getRs (d := mX6_set) (pc := 62) (a := 155) (kd := 6) (j := 0) (x := 156) dX6_set_62 flRX6_7 ly155 (by decide) (by decide) rfl hM.1 ?_
        refine r_cV1 (d := mX6_set) (pc := 65) (dj := mX6_changes) (a := 155) (kd := 6) dX6_set_65 mlRX6_81 inX6_changes selX6_changes rfl ly155 (by decide) okX6_changes (by decide) rfl (Nat.le_of_ble_eq_true rfl) (by decide) (by decide) (Fn_X6_changes (k + 4) I P hM hq 156 ly156 (by decide) (by decide)) ?_
        refine wpE (lv' := [(0, .inr (some 155)), (1, .inl w), (2, .inl v), (3, .inl (bI (1 ≤ v ∧ v ≤ 9)))]) (st' := []) (M' := (lay0, arS (mdB I (chP (I 155 5) (I 155 4) (I 157) (I 156)) (chQ (I 155 5) (I 155 4)) (I 159) (I 158)) 156 (I 156), P)) rfl rfl (by refine memE ?_; exact chI_0 _ _) ?_
        refine r_aload_n (d := mX6_set) (pc := 68) (i := 0) (v := 155) dX6_set_68 rfl rfl ?_
        refine r_getRs (d := mX6_set) (pc := 69) (a := 155) (kd := 6) (j := 0) (x := 156) dX6_set_69 flRX6_7 ly155 (by decide) (by decide) rfl hM.1 ?_
        refine r_bipush (d := mX6_set) (pc := 72) (n := 8) dX6_set_72 ?_
        refine r_iload_n (d := mX6_set) (pc := 74) (i := 1) (v := w) dX6_set_74 rfl rfl ?_
        refine r_iadd (d := mX6_set) (pc := 75) dX6_set_75 ?_
        refine r_ialds (d := mX6_set) (pc := 76) (a := 156) (x := ((I 156) (8 + w))) dX6_set_76 ly156 (by omega) (by omega) (rfl) ?_
        refine r_istore (d := mX6_set) (pc := 77) (i := 4) (lv' := [(0, .inr (some 155)), (1, .inl w), (2, .inl v), (3, .inl (bI (1 ≤ v ∧ v ≤ 9))), (4, .inl ((I 156) (8 + w)))]) dX6_set_77 (by decide) rfl rfl ?_
        refine r_aload_n (d := mX6_set) (pc := 79) (i := 0) (v := 155) dX6_set_79 rfl rfl ?_
        refine r_getRs (d := mX6_set) (pc := 80) (a := 155) (kd := 6) (j := 0) (x := 156) dX6_set_80 flRX6_7 ly155 (by decide) (by decide) rfl hM.1 ?_
        refine r_bipush (d := mX6_set) (pc := 83) (n := 8) dX6_set_83 ?_
        refine r_iload_n (d := mX6_set) (pc := 85) (i := 1) (v := w) dX6_set_85 rfl rfl ?_
        refine r_iadd (d := mX6_set) (pc := 86) dX6_set_86 ?_
        refine r_iload_n (d := mX6_set) (pc := 87) (i := 2) (v := v) dX6_set_87 rfl rfl ?_
        refine r_iasts (d := mX6_set) (pc := 88) (a := 156) (lay0, arS (mdB I (chP (I 155 5) (I 155 4) (I 157) (I 156)) (chQ (I 155 5) (I 155 4)) (I 159) (I 158)) 156 (fset (I 156) (8 + w) v), P) dX6_set_88 ly156 (by omega) (by omega) (memE (arS_up _ _ _ _ _)) ?_
        refine r_iload (d := mX6_set) (pc := 89) (i := 4) (v := ((I 156) (8 + w))) dX6_set_89 rfl ?_
        exact r_iret (d := mX6_set) (pc := 91) dX6_set_91 rfl (rtI (by first | rw [stV, if_pos (by omega)] | rw [stV, if_neg (by omega)]) (by refine memE ?_; first | (rw [stI, if_pos (by omega)]; rfl) | rw [stI, if_neg (by omega)])) (by decide) (by decide)
      · refine r_iconst (d := mX6_set) (pc := 58) (n := (-1)) dX6_set_58 ?_
        exact r_iret (d := mX6_set) (pc := 59) dX6_set_59 rfl (rtI (by first | rw [stV, if_pos (by omega)] | rw [stV, if_neg (by omega)]) (by refine memE ?_; first | (rw [stI, if_pos (by omega)]; rfl) | rw [stI, if_neg (by omega)])) (by decide) (by decide)
set_option maxRecDepth 20000 in
set_option maxHeartbeats 4000000 in
theorem Fn_X6_mark (k : Nat) (I : mIt) (P : mPt) (hM : isMd P) (m : Nat) (hm : I 156 2 = m) (hm3 : m ≤ 3) (hq : 0 ≤ I 155 4 ∧ I 155 4 ≤ 4) : WP (k + 3) mX6_mark none (0, 0) (Rt (some (.inl (mmV m))) (lay0, mmI I m, P)) 0 [(0, .inr (some 155))] [] (lay0, I, P) := by
  refine r_aload_n (d := mX6_mark) (pc := 0) (i := 0) (v := 155) dX6_mark_0 rfl rfl ?_
  refine r_getRs (d := mX6_mark) (pc := 1) (a := 155) (kd := 6) (j := 0) (x := 156) dX6_mark_1 flRX6_7 ly155 (by decide) (by decide) rfl hM.1 ?_
  refine r_iconst (d := mX6_mark) (pc := 4) (n := 2) dX6_mark_4 ?_
  refine r_ialds (d := mX6_mark) (pc := 5) (a := 156) (x := (m : Int)) dX6_mark_5 ly156 (by decide) (by decide) (hm) ?_
  refine r_iconst (d := mX6_mark) (pc := 6) (n := 3) dX6_mark_6 ?_
  refine r_icmp_ne (d := mX6_mark) (pc := 7) (tgt := 13) dX6_mark_7 (by decide) (fun h7 => ?_) (fun h7 => ?_)
  · refine r_aload_n (d := mX6_mark) (pc := 13) (i := 0) (v := 155) dX6_mark_13 rfl rfl ?_
    refine r_aload_n (d := mX6_mark) (pc := 14) (i := 0) (v := 155) dX6_mark_14 rfl rfl ?_
    refine r_getRs (d := mX6_mark) (pc := 15) (a := 155) (kd := 6) (j := 0) (x := 156) dX6_mark_15 flRX6_7 ly155 (by decide) (by decide) rfl hM.1 ?_
    refine r_cV1 (d := mX6_mark) (pc := 18) (dj := mX6_changes) (a := 155) (kd := 6) dX6_mark_18 mlRX6_81 inX6_changes selX6_changes rfl ly155 (by decide) okX6_changes (by decide) rfl (Nat.le_of_ble_eq_true rfl) (by decide) (by decide) (Fn_X6_changes (k + 2) I P hM hq 156 ly156 (by decide) (by decide)) ?_
    refine wpE (lv' := [(0, .inr (some 155))]) (st' := []) (M' := (lay0, arS (mdB I (chP (I 155 5) (I 155 4) (I 157) (I 156)) (chQ (I 155 5) (I 155 4)) (I 159) (I 158)) 156 (I 156), P)) rfl rfl (by refine memE ?_; exact chI_0 _ _) ?_
    refine r_iconst (d := mX6_mark) (pc := 21) (n := 0) dX6_mark_21 ?_
    refine r_istore_n (d := mX6_mark) (pc := 22) (i := 1) (lv' := [(0, .inr (some 155)), (1, .inl 0)]) dX6_mark_22 rfl (by decide) rfl rfl ?_
    have L23 : ∀ j : Nat, j ≤ 16 → WP (k + 3) mX6_mark none (0, 0) (Rt (some (.inl (mmV m))) (lay0, mmI I m, P)) 23 [(0, .inr (some 155)), (1, .inl (j : Int))] [] (lay0, arS (mdB I (chP (I 155 5) (I 155 4) (I 157) (I 156)) (chQ (I 155 5) (I 155 4)) (I 159) (I 158)) 156 (mkA (I 156) m j), P) := by
      refine loopN (16) _ (fun j ih23 hj23 => ?_)
      refine r_iload_n (d := mX6_mark) (pc := 23) (i := 1) (v := (j : Int)) dX6_mark_23 rfl rfl ?_
      refine r_bipush (d := mX6_mark) (pc := 24) (n := 16) dX6_mark_24 ?_
      refine r_icmp_ge (d := mX6_mark) (pc := 26) (tgt := 63) dX6_mark_26 (by decide) (fun h26 => ?_) (fun h26 => ?_)
      · refine r_aload_n (d := mX6_mark) (pc := 63) (i := 0) (v := 155) dX6_mark_63 rfl rfl ?_
        refine r_getRs (d := mX6_mark) (pc := 64) (a := 155) (kd := 6) (j := 0) (x := 156) dX6_mark_64 flRX6_7 ly155 (by decide) (by decide) rfl hM.1 ?_
        refine r_iconst (d := mX6_mark) (pc := 67) (n := 2) dX6_mark_67 ?_
        refine r_dup2 (d := mX6_mark) (pc := 68) dX6_mark_68 ?_
        refine r_ialds (d := mX6_mark) (pc := 69) (a := 156) (x := (m : Int)) dX6_mark_69 ly156 (by decide) (by decide) (by show (mkA (I 156) m j) 2 = _; rw [mkA_lo _ _ _ (by decide)]; exact hm) ?_
        refine r_iconst (d := mX6_mark) (pc := 70) (n := 1) dX6_mark_70 ?_
        refine r_iadd (d := mX6_mark) (pc := 71) dX6_mark_71 ?_
        refine r_iasts (d := mX6_mark) (pc := 72) (a := 156) (lay0, arS (mdB I (chP (I 155 5) (I 155 4) (I 157) (I 156)) (chQ (I 155 5) (I 155 4)) (I 159) (I 158)) 156 (fset (mkA (I 156) m j) 2 ((m : Int) + 1)), P) dX6_mark_72 ly156 (by decide) (by decide) (memE (arS_up _ _ _ _ _)) ?_
        refine r_aload_n (d := mX6_mark) (pc := 73) (i := 0) (v := 155) dX6_mark_73 rfl rfl ?_
        refine r_getRs (d := mX6_mark) (pc := 74) (a := 155) (kd := 6) (j := 0) (x := 156) dX6_mark_74 flRX6_7 ly155 (by decide) (by decide) rfl hM.1 ?_
        refine r_iconst (d := mX6_mark) (pc := 77) (n := 2) dX6_mark_77 ?_
        refine r_ialds (d := mX6_mark) (pc := 78) (a := 156) (x := ((m : Int) + 1)) dX6_mark_78 ly156 (by decide) (by decide) (by show (fset (mkA (I 156) m j) 2 ((m : Int) + 1)) 2 = _; rw [fset_at]) ?_
        refine r_iconst (d := mX6_mark) (pc := 79) (n := 1) dX6_mark_79 ?_
        refine r_isub (d := mX6_mark) (pc := 80) dX6_mark_80 ?_
        exact r_iret (d := mX6_mark) (pc := 81) dX6_mark_81 rfl (rtI (by first | (rw [mmV, if_pos (by omega)]; done) | (rw [mmV, if_neg (by omega)]; try omega)) (by refine memE ?_; first | (rw [mmI, if_pos (by omega)]; done) | (rw [mmI, if_neg (by omega), show j = 16 by omega]; rfl))) (by decide) (by decide)
      · refine r_aload_n (d := mX6_mark) (pc := 29) (i := 0) (v := 155) dX6_mark_29 rfl rfl ?_
        refine r_getRs (d := mX6_mark) (pc := 30) (a := 155) (kd := 6) (j := 0) (x := 156) dX6_mark_30 flRX6_7 ly155 (by decide) (by decide) rfl hM.1 ?_
        refine r_bipush (d := mX6_mark) (pc := 33) (n := 63) dX6_mark_33 ?_
        refine r_bipush (d := mX6_mark) (pc := 35) (n := 16) dX6_mark_35 ?_
        refine r_aload_n (d := mX6_mark) (pc := 37) (i := 0) (v := 155) dX6_mark_37 rfl rfl ?_
        refine r_getRs (d := mX6_mark) (pc := 38) (a := 155) (kd := 6) (j := 0) (x := 156) dX6_mark_38 flRX6_7 ly155 (by decide) (by decide) rfl hM.1 ?_
        refine r_iconst (d := mX6_mark) (pc := 41) (n := 2) dX6_mark_41 ?_
        refine r_ialds (d := mX6_mark) (pc := 42) (a := 156) (x := (m : Int)) dX6_mark_42 ly156 (by decide) (by decide) (by show (mkA (I 156) m j) 2 = _; rw [mkA_lo _ _ _ (by decide)]; exact hm) ?_
        refine r_imul (d := mX6_mark) (pc := 43) dX6_mark_43 ?_
        refine r_iadd (d := mX6_mark) (pc := 44) dX6_mark_44 ?_
        refine r_iload_n (d := mX6_mark) (pc := 45) (i := 1) (v := (j : Int)) dX6_mark_45 rfl rfl ?_
        refine r_iadd (d := mX6_mark) (pc := 46) dX6_mark_46 ?_
        refine r_aload_n (d := mX6_mark) (pc := 47) (i := 0) (v := 155) dX6_mark_47 rfl rfl ?_
        refine r_getRs (d := mX6_mark) (pc := 48) (a := 155) (kd := 6) (j := 0) (x := 156) dX6_mark_48 flRX6_7 ly155 (by decide) (by decide) rfl hM.1 ?_
        refine r_bipush (d := mX6_mark) (pc := 51) (n := 12) dX6_mark_51 ?_
        refine r_iload_n (d := mX6_mark) (pc := 53) (i := 1) (v := (j : Int)) dX6_mark_53 rfl rfl ?_
        refine r_iadd (d := mX6_mark) (pc := 54) dX6_mark_54 ?_
        refine r_ialds (d := mX6_mark) (pc := 55) (a := 156) (x := (I 156 (12 + (j : Int)))) dX6_mark_55 ly156 (by omega) (by omega) (by show (mkA (I 156) m j) (12 + (j : Int)) = _; rw [mkA_lo _ _ _ (by omega)]) ?_
        refine r_iasts (d := mX6_mark) (pc := 56) (a := 156) (lay0, arS (mdB I (chP (I 155 5) (I 155 4) (I 157) (I 156)) (chQ (I 155 5) (I 155 4)) (I 159) (I 158)) 156 (fset (mkA (I 156) m j) ((63 + (16 * (m : Int))) + (j : Int)) (I 156 (12 + (j : Int)))), P) dX6_mark_56 ly156 (by omega) (by omega) (memE (arS_up _ _ _ _ _)) ?_
        refine r_iinc (d := mX6_mark) (pc := 57) (i := 1) (v := (j : Int)) (y := ((j + 1 : Nat) : Int)) (lv' := [(0, .inr (some 155)), (1, .inl ((j + 1 : Nat) : Int))]) dX6_mark_57 rfl (by decide) rfl (by omega) rfl ?_
        refine r_goto (d := mX6_mark) (pc := 60) (tgt := 23) dX6_mark_60 (by decide) ?_
        exact wpE (by simp) rfl (by refine memE ?_; rw [← mkA_s _ _ _ (by omega)]) (ih23 (by omega) (by omega))
    exact wpE (by simp) rfl (by refine memE ?_; rw [mkA_0]) (L23 0 (by omega))
  · refine r_bipush (d := mX6_mark) (pc := 10) (n := (-3)) dX6_mark_10 ?_
    exact r_iret (d := mX6_mark) (pc := 12) dX6_mark_12 rfl (rtI (by first | (rw [mmV, if_pos (by omega)]; done) | (rw [mmV, if_neg (by omega)]; try omega)) (by refine memE ?_; first | (rw [mmI, if_pos (by omega)]; done) | (rw [mmI, if_neg (by omega), show j = 16 by omega]; rfl))) (by decide) (by decide)
