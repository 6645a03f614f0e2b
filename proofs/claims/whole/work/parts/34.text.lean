/-! ===== the model: undo, the text ===== -/
def unP (s p : Int → Int) (q : Int) (j : Nat) : Int → Int := fun i => if 0 ≤ i ∧ i < (j : Int) then p (153 * q + i) else s i
theorem unP_0 (s p : Int → Int) (q : Int) : unP s p q 0 = s := by
  funext i
  unfold unP
  rw [if_neg (by omega)]
theorem unP_s (s p : Int → Int) (q : Int) (j : Nat) : fset (unP s p q j) (j : Int) (p (153 * q + (j : Int))) = unP s p q (j + 1) := by
  funext i
  unfold fset
  by_cases h : i = (j : Int)
  · rw [if_pos h]
    unfold unP
    rw [if_pos (by omega), h]
  · rw [if_neg h]
    unfold unP
    by_cases h2 : 0 ≤ i ∧ i < (j : Int)
    · rw [if_pos h2, if_pos (by omega)]
    · rw [if_neg h2, if_neg (by omega)]
def unV (I : mIt) : Int := if I 155 4 = 0 then -2 else I 155 4 - 1
def unI (I : mIt) : mIt := if I 155 4 = 0 then I else arS (mUp I 155 4 (I 155 4 - 1)) 156 (unP (I 156) (I 157) (I 155 4 - 1) 153)
def tyV (I : mIt) (ch : Int) : Int := if ¬ (32 ≤ ch ∧ ch ≤ 126) then -1 else if I 155 7 = 80 then -3 else I 155 7 + 1
def tyI (I : mIt) (ch : Int) : mIt := if ¬ (32 ≤ ch ∧ ch ≤ 126) then I else if I 155 7 = 80 then I else mUp (mUp I 160 (I 155 7) ch) 155 7 (I 155 7 + 1)
def atB (I : mIt) (lo hi : Int) : Bool := decide (I 155 9 < I 155 7 ∧ lo ≤ I 160 (I 155 9) ∧ I 160 (I 155 9) ≤ hi)
def wdB (I : mIt) (x a b c d : Int) : Bool := decide (I 155 9 - x = (if 0 < d then 4 else 3) ∧ I 160 x = a ∧ I 160 (x + 1) = b ∧ I 160 (x + 2) = c ∧ (d = 0 ∨ I 160 (x + 3) = d))
def paI (I : mIt) (c : Int) : mIt := if atB I c c = true then mUp I 155 9 (I 155 9 + 1) else I
def TxOK (I : mIt) : Prop := (0 ≤ I 155 9 ∧ I 155 9 ≤ I 155 7) ∧ I 155 7 ≤ 80 ∧ ∀ i : Int, 0 ≤ i → i < 80 → 0 ≤ I 160 i ∧ I 160 i ≤ 126
def wdV (I : mIt) (x : Int) : Int := if wdB I x 97 100 100 0 = true then 0 else if wdB I x 115 117 98 0 = true then 1 else if wdB I x 109 117 108 0 = true then 2 else if wdB I x 112 117 116 0 = true then 3 else if wdB I x 99 111 112 121 = true then 4 else if wdB I x 116 105 99 107 = true then 5 else if wdB I x 109 97 114 107 = true then 6 else if wdB I x 107 101 101 112 = true then 7 else if wdB I x 98 97 99 107 = true then 8 else -4
set_option maxRecDepth 20000 in
set_option maxHeartbeats 4000000 in
theorem Fn_X6_undo (k : Nat) (I : mIt) (P : mPt) (hM : isMd P) (hq : 0 ≤ I 155 4 ∧ I 155 4 ≤ 4) : WP (k + 1) mX6_undo none (0, 0) (Rt (some (.inl (unV I))) (lay0, unI I, P)) 0 [(0, .inr (some 155))] [] (lay0, I, P) := by
  refine r_aload_n (d := mX6_undo) (pc := 0) (i := 0) (v := 155) dX6_undo_0 rfl rfl ?_
  refine r_getIs (d := mX6_undo) (pc := 1) (a := 155) (kd := 6) (j := 4) (x := (I 155 4)) dX6_undo_1 flRX6_39 ly155 (by decide) (by decide) rfl (rfl) ?_
  refine r_if_ne (d := mX6_undo) (pc := 4) (tgt := 10) dX6_undo_4 (by decide) (fun h4 => ?_) (fun h4 => ?_)
  · refine r_aload_n (d := mX6_undo) (pc := 10) (i := 0) (v := 155) dX6_undo_10 rfl rfl ?_
    refine r_dup (d := mX6_undo) (pc := 11) dX6_undo_11 ?_
    refine r_getIs (d := mX6_undo) (pc := 12) (a := 155) (kd := 6) (j := 4) (x := (I 155 4)) dX6_undo_12 flRX6_39 ly155 (by decide) (by decide) rfl (rfl) ?_
    refine r_iconst (d := mX6_undo) (pc := 15) (n := 1) dX6_undo_15 ?_
    refine r_isub (d := mX6_undo) (pc := 16) dX6_undo_16 ?_
    refine r_putIs (d := mX6_undo) (pc := 17) (a := 155) (kd := 6) (j := 4) (lay0, mUp I 155 4 ((I 155 4) - 1), P) dX6_undo_17 flRX6_39 ly155 (by decide) (by decide) rfl rfl (Or.inl rfl) rfl ?_
    refine r_iconst (d := mX6_undo) (pc := 20) (n := 0) dX6_undo_20 ?_
    refine r_istore_n (d := mX6_undo) (pc := 21) (i := 1) (lv' := [(0, .inr (some 155)), (1, .inl 0)]) dX6_undo_21 rfl (by decide) rfl rfl ?_
    have L22 : ∀ j : Nat, j ≤ 153 → WP (k + 1) mX6_undo none (0, 0) (Rt (some (.inl (unV I))) (lay0, unI I, P)) 22 [(0, .inr (some 155)), (1, .inl (j : Int))] [] (lay0, arS (mUp I 155 4 (I 155 4 - 1)) 156 (unP (I 156) (I 157) (I 155 4 - 1) j), P) := by
      refine loopN (153) _ (fun j ih22 hj22 => ?_)
      refine r_iload_n (d := mX6_undo) (pc := 22) (i := 1) (v := (j : Int)) dX6_undo_22 rfl rfl ?_
      refine r_sipush (d := mX6_undo) (pc := 23) (n := 153) dX6_undo_23 ?_
      refine r_icmp_ge (d := mX6_undo) (pc := 26) (tgt := 56) dX6_undo_26 (by decide) (fun h26 => ?_) (fun h26 => ?_)
      · refine r_aload_n (d := mX6_undo) (pc := 56) (i := 0) (v := 155) dX6_undo_56 rfl rfl ?_
        refine r_getIs (d := mX6_undo) (pc := 57) (a := 155) (kd := 6) (j := 4) (x := ((I 155 4) - 1)) dX6_undo_57 flRX6_39 ly155 (by decide) (by decide) rfl (rfl) ?_
        exact r_iret (d := mX6_undo) (pc := 60) dX6_undo_60 rfl (rtI (by unfold unV; repeat (first | rw [if_pos (by first | assumption | omega)] | rw [if_neg (by first | assumption | omega)])) (by refine memE ?_; rw [unI, if_neg (by omega), show j = 153 by omega])) (by decide) (by decide)
      · refine r_aload_n (d := mX6_undo) (pc := 29) (i := 0) (v := 155) dX6_undo_29 rfl rfl ?_
        refine r_getRs (d := mX6_undo) (pc := 30) (a := 155) (kd := 6) (j := 0) (x := 156) dX6_undo_30 flRX6_7 ly155 (by decide) (by decide) rfl hM.1 ?_
        refine r_iload_n (d := mX6_undo) (pc := 33) (i := 1) (v := (j : Int)) dX6_undo_33 rfl rfl ?_
        refine r_aload_n (d := mX6_undo) (pc := 34) (i := 0) (v := 155) dX6_undo_34 rfl rfl ?_
        refine r_getRs (d := mX6_undo) (pc := 35) (a := 155) (kd := 6) (j := 1) (x := 157) dX6_undo_35 flRX6_13 ly155 (by decide) (by decide) rfl hM.2.1 ?_
        refine r_sipush (d := mX6_undo) (pc := 38) (n := 153) dX6_undo_38 ?_
        refine r_aload_n (d := mX6_undo) (pc := 41) (i := 0) (v := 155) dX6_undo_41 rfl rfl ?_
        refine r_getIs (d := mX6_undo) (pc := 42) (a := 155) (kd := 6) (j := 4) (x := ((I 155 4) - 1)) dX6_undo_42 flRX6_39 ly155 (by decide) (by decide) rfl (rfl) ?_
        refine r_imul (d := mX6_undo) (pc := 45) dX6_undo_45 ?_
        refine r_iload_n (d := mX6_undo) (pc := 46) (i := 1) (v := (j : Int)) dX6_undo_46 rfl rfl ?_
        refine r_iadd (d := mX6_undo) (pc := 47) dX6_undo_47 ?_
        refine r_ialds (d := mX6_undo) (pc := 48) (a := 157) (x := (I 157 ((153 * ((I 155 4) - 1)) + (j : Int)))) dX6_undo_48 ly157 (by omega) (by omega) (rfl) ?_
        refine r_iasts (d := mX6_undo) (pc := 49) (a := 156) (lay0, mUp (arS (mUp I 155 4 (I 155 4 - 1)) 156 (unP (I 156) (I 157) (I 155 4 - 1) j)) 156 (j : Int) (I 157 ((153 * ((I 155 4) - 1)) + (j : Int))), P) dX6_undo_49 ly156 (by omega) (by omega) rfl ?_
        refine r_iinc (d := mX6_undo) (pc := 50) (i := 1) (v := (j : Int)) (y := ((j + 1 : Nat) : Int)) (lv' := [(0, .inr (some 155)), (1, .inl ((j + 1 : Nat) : Int))]) dX6_undo_50 rfl (by decide) rfl (by omega) rfl ?_
        refine r_goto (d := mX6_undo) (pc := 53) (tgt := 22) dX6_undo_53 (by decide) ?_
        exact wpE (by simp) rfl (by refine memE ?_; rw [arS_up, unP_s]) (ih22 (by omega) (by omega))
    exact wpE (by simp) rfl (by refine memE ?_; rw [unP_0]; exact (arS_self _ _).symm) (L22 0 (by omega))
  · refine r_bipush (d := mX6_undo) (pc := 7) (n := (-2)) dX6_undo_7 ?_
    exact r_iret (d := mX6_undo) (pc := 9) dX6_undo_9 rfl (rtI (by unfold unV; repeat (first | rw [if_pos (by first | assumption | omega)] | rw [if_neg (by first | assumption | omega)])) (by refine memE ?_; rw [unI, if_pos (by omega)])) (by decide) (by decide)
set_option maxRecDepth 20000 in
set_option maxHeartbeats 4000000 in
theorem Fn_X6_type (k : Nat) (I : mIt) (P : mPt) (hM : isMd P) (hty : 0 ≤ I 155 7 ∧ I 155 7 ≤ 80) (ch : Int) : WP (k + 1) mX6_type none (0, 0) (Rt (some (.inl (tyV I ch))) (lay0, tyI I ch, P)) 0 [(0, .inr (some 155)), (1, .inl ch)] [] (lay0, I, P) := by
  refine r_iload_n (d := mX6_type) (pc := 0) (i := 1) (v := ch) dX6_type_0 rfl rfl ?_
  refine r_bipush (d := mX6_type) (pc := 1) (n := 32) dX6_type_1 ?_
  refine r_bipush (d := mX6_type) (pc := 3) (n := 126) dX6_type_3 ?_
  refine r_cS3 (d := mX6_type) (pc := 5) (dj := mX6_in) dX6_type_5 mlRX6_43 staX6_in okX6_in (by decide) rfl (Nat.le_of_ble_eq_true rfl) (by decide) (by decide) (Fn_X6_in k I P   ch 32 126) ?_
  refine r_ifb_ne (d := mX6_type) (pc := 8) (tgt := 13) dX6_type_8 (by decide) (fun h8 => ?_) (fun h8 => ?_)
  · refine r_aload_n (d := mX6_type) (pc := 13) (i := 0) (v := 155) dX6_type_13 rfl rfl ?_
    refine r_getIs (d := mX6_type) (pc := 14) (a := 155) (kd := 6) (j := 7) (x := (I 155 7)) dX6_type_14 flRX6_135 ly155 (by decide) (by decide) rfl (rfl) ?_
    refine r_bipush (d := mX6_type) (pc := 17) (n := 80) dX6_type_17 ?_
    refine r_icmp_ne (d := mX6_type) (pc := 19) (tgt := 25) dX6_type_19 (by decide) (fun h19 => ?_) (fun h19 => ?_)
    · refine r_aload_n (d := mX6_type) (pc := 25) (i := 0) (v := 155) dX6_type_25 rfl rfl ?_
      refine r_getRs (d := mX6_type) (pc := 26) (a := 155) (kd := 6) (j := 6) (x := 160) dX6_type_26 flRX6_22 ly155 (by decide) (by decide) rfl hM.2.2.2.2.1 ?_
      refine r_aload_n (d := mX6_type) (pc := 29) (i := 0) (v := 155) dX6_type_29 rfl rfl ?_
      refine r_getIs (d := mX6_type) (pc := 30) (a := 155) (kd := 6) (j := 7) (x := (I 155 7)) dX6_type_30 flRX6_135 ly155 (by decide) (by decide) rfl (rfl) ?_
      refine r_iload_n (d := mX6_type) (pc := 33) (i := 1) (v := ch) dX6_type_33 rfl rfl ?_
      refine r_iasts (d := mX6_type) (pc := 34) (a := 160) (lay0, mUp I 160 (I 155 7) ch, P) dX6_type_34 ly160 (by omega) (by omega) rfl ?_
      refine r_aload_n (d := mX6_type) (pc := 35) (i := 0) (v := 155) dX6_type_35 rfl rfl ?_
      refine r_dup (d := mX6_type) (pc := 36) dX6_type_36 ?_
      refine r_getIs (d := mX6_type) (pc := 37) (a := 155) (kd := 6) (j := 7) (x := (I 155 7)) dX6_type_37 flRX6_135 ly155 (by decide) (by decide) rfl (by simp [mUp, cpy, fset]) ?_
      refine r_iconst (d := mX6_type) (pc := 40) (n := 1) dX6_type_40 ?_
      refine r_iadd (d := mX6_type) (pc := 41) dX6_type_41 ?_
      refine r_putIs (d := mX6_type) (pc := 42) (a := 155) (kd := 6) (j := 7) (lay0, mUp (mUp I 160 (I 155 7) ch) 155 7 ((I 155 7) + 1), P) dX6_type_42 flRX6_135 ly155 (by decide) (by decide) rfl rfl (Or.inl rfl) rfl ?_
      refine r_aload_n (d := mX6_type) (pc := 45) (i := 0) (v := 155) dX6_type_45 rfl rfl ?_
      refine r_getIs (d := mX6_type) (pc := 46) (a := 155) (kd := 6) (j := 7) (x := ((I 155 7) + 1)) dX6_type_46 flRX6_135 ly155 (by decide) (by decide) rfl (by simp [mUp, cpy, fset]) ?_
      exact r_iret (d := mX6_type) (pc := 49) dX6_type_49 rfl (rtI (by unfold tyV; repeat (first | rw [if_pos (by first | assumption | omega)] | rw [if_neg (by first | assumption | omega)])) (by refine memE ?_; rw [tyI, if_neg (by omega), if_neg (by omega)])) (by decide) (by decide)
    · refine r_bipush (d := mX6_type) (pc := 22) (n := (-3)) dX6_type_22 ?_
      exact r_iret (d := mX6_type) (pc := 24) dX6_type_24 rfl (rtI (by unfold tyV; repeat (first | rw [if_pos (by first | assumption | omega)] | rw [if_neg (by first | assumption | omega)])) (by refine memE ?_; rw [tyI, if_neg (by omega), if_pos (by omega)])) (by decide) (by decide)
  · refine r_iconst (d := mX6_type) (pc := 11) (n := (-1)) dX6_type_11 ?_
    exact r_iret (d := mX6_type) (pc := 12) dX6_type_12 rfl (rtI (by unfold tyV; repeat (first | rw [if_pos (by first | assumption | omega)] | rw [if_neg (by first | assumption | omega)])) (by refine memE ?_; rw [tyI, if_pos (by omega)])) (by decide) (by decide)
set_option maxRecDepth 20000 in
set_option maxHeartbeats 4000000 in
theorem Fn_X6_clearText (k : Nat) (I : mIt) (P : mPt) (hM : isMd P) : WP (k + 1) mX6_clearText none (0, 0) (Rt (some (.inl (I 155 7))) (lay0, mUp I 155 7 0, P)) 0 [(0, .inr (some 155))] [] (lay0, I, P) := by
  refine r_aload_n (d := mX6_clearText) (pc := 0) (i := 0) (v := 155) dX6_clearText_0 rfl rfl ?_
  refine r_getIs (d := mX6_clearText) (pc := 1) (a := 155) (kd := 6) (j := 7) (x := (I 155 7)) dX6_clearText_1 flRX6_135 ly155 (by decide) (by decide) rfl (rfl) ?_
  refine r_istore_n (d := mX6_clearText) (pc := 4) (i := 1) (lv' := [(0, .inr (some 155)), (1, .inl (I 155 7))]) dX6_clearText_4 rfl (by decide) rfl rfl ?_
  refine r_aload_n (d := mX6_clearText) (pc := 5) (i := 0) (v := 155) dX6_clearText_5 rfl rfl ?_
  refine r_iconst (d := mX6_clearText) (pc := 6) (n := 0) dX6_clearText_6 ?_
  refine r_putIs (d := mX6_clearText) (pc := 7) (a := 155) (kd := 6) (j := 7) (lay0, mUp I 155 7 0, P) dX6_clearText_7 flRX6_135 ly155 (by decide) (by decide) rfl rfl (Or.inl rfl) rfl ?_
  refine r_iload_n (d := mX6_clearText) (pc := 10) (i := 1) (v := (I 155 7)) dX6_clearText_10 rfl rfl ?_
  exact r_iret (d := mX6_clearText) (pc := 11) dX6_clearText_11 rfl (rtI (by rfl) (by rfl)) (by decide) (by decide)
set_option maxRecDepth 20000 in
set_option maxHeartbeats 4000000 in
theorem Fn_X6_isAt (k : Nat) (I : mIt) (P : mPt) (hM : isMd P) (hT : TxOK I) (lo hi : Int) : WP (k + 1) mX6_isAt none (0, 0) (Rt (some (.inl (bI (atB I lo hi = true)))) (lay0, I, P)) 0 [(0, .inr (some 155)), (1, .inl lo), (2, .inl hi)] [] (lay0, I, P) := by
  have hT1 := hT.1
  have hT2 := hT.2.1
  refine r_aload_n (d := mX6_isAt) (pc := 0) (i := 0) (v := 155) dX6_isAt_0 rfl rfl ?_
  refine r_getIs (d := mX6_isAt) (pc := 1) (a := 155) (kd := 6) (j := 9) (x := (I 155 9)) dX6_isAt_1 flRX6_138 ly155 (by decide) (by decide) rfl (rfl) ?_
  refine r_aload_n (d := mX6_isAt) (pc := 4) (i := 0) (v := 155) dX6_isAt_4 rfl rfl ?_
  refine r_getIs (d := mX6_isAt) (pc := 5) (a := 155) (kd := 6) (j := 7) (x := (I 155 7)) dX6_isAt_5 flRX6_135 ly155 (by decide) (by decide) rfl (rfl) ?_
  refine r_icmp_ge (d := mX6_isAt) (pc := 8) (tgt := 32) dX6_isAt_8 (by decide) (fun h8 => ?_) (fun h8 => ?_)
  · refine r_iconst (d := mX6_isAt) (pc := 32) (n := 0) dX6_isAt_32 ?_
    exact r_zret (d := mX6_isAt) (pc := 33) dX6_isAt_33 rfl (Or.inl rfl) (rtI (by first | exact (bI_t (by simp only [atB, decide_eq_true_eq]; omega)).symm | exact (bI_f (by simp only [atB, decide_eq_true_eq]; omega)).symm) (by rfl)) (by decide) (by decide)
  · refine r_aload_n (d := mX6_isAt) (pc := 11) (i := 0) (v := 155) dX6_isAt_11 rfl rfl ?_
    refine r_getRs (d := mX6_isAt) (pc := 12) (a := 155) (kd := 6) (j := 6) (x := 160) dX6_isAt_12 flRX6_22 ly155 (by decide) (by decide) rfl hM.2.2.2.2.1 ?_
    refine r_aload_n (d := mX6_isAt) (pc := 15) (i := 0) (v := 155) dX6_isAt_15 rfl rfl ?_
    refine r_getIs (d := mX6_isAt) (pc := 16) (a := 155) (kd := 6) (j := 9) (x := (I 155 9)) dX6_isAt_16 flRX6_138 ly155 (by decide) (by decide) rfl (rfl) ?_
    refine r_ialds (d := mX6_isAt) (pc := 19) (a := 160) (x := (I 160 (I 155 9))) dX6_isAt_19 ly160 (by omega) (by omega) (rfl) ?_
    refine r_iload_n (d := mX6_isAt) (pc := 20) (i := 1) (v := lo) dX6_isAt_20 rfl rfl ?_
    refine r_iload_n (d := mX6_isAt) (pc := 21) (i := 2) (v := hi) dX6_isAt_21 rfl rfl ?_
    refine r_cS3 (d := mX6_isAt) (pc := 22) (dj := mX6_in) dX6_isAt_22 mlRX6_43 staX6_in okX6_in (by decide) rfl (Nat.le_of_ble_eq_true rfl) (by decide) (by decide) (Fn_X6_in k I P   (I 160 (I 155 9)) lo hi) ?_
    refine r_ifb_eq (d := mX6_isAt) (pc := 25) (tgt := 32) dX6_isAt_25 (by decide) (fun h25 => ?_) (fun h25 => ?_)
    · refine r_iconst (d := mX6_isAt) (pc := 32) (n := 0) dX6_isAt_32 ?_
      exact r_zret (d := mX6_isAt) (pc := 33) dX6_isAt_33 rfl (Or.inl rfl) (rtI (by first | exact (bI_t (by simp only [atB, decide_eq_true_eq]; omega)).symm | exact (bI_f (by simp only [atB, decide_eq_true_eq]; omega)).symm) (by rfl)) (by decide) (by decide)
    · refine r_iconst (d := mX6_isAt) (pc := 28) (n := 1) dX6_isAt_28 ?_
      refine r_goto (d := mX6_isAt) (pc := 29) (tgt := 33) dX6_isAt_29 (by decide) ?_
      exact r_zret (d := mX6_isAt) (pc := 33) dX6_isAt_33 rfl (Or.inr rfl) (rtI (by first | exact (bI_t (by simp only [atB, decide_eq_true_eq]; omega)).symm | exact (bI_f (by simp only [atB, decide_eq_true_eq]; omega)).symm) (by rfl)) (by decide) (by decide)
set_option maxRecDepth 20000 in
set_option maxHeartbeats 4000000 in
theorem Fn_X6_passes (k : Nat) (I : mIt) (P : mPt) (hM : isMd P) (hT : TxOK I) (c : Int) : WP (k + 2) mX6_passes none (0, 0) (Rt (some (.inl (bI (atB I c c = true)))) (lay0, paI I c, P)) 0 [(0, .inr (some 155)), (1, .inl c)] [] (lay0, I, P) := by
  have hT1 := hT.1
  have hT2 := hT.2.1
  refine r_aload_n (d := mX6_passes) (pc := 0) (i := 0) (v := 155) dX6_passes_0 rfl rfl ?_
  refine r_iload_n (d := mX6_passes) (pc := 1) (i := 1) (v := c) dX6_passes_1 rfl rfl ?_
  refine r_iload_n (d := mX6_passes) (pc := 2) (i := 1) (v := c) dX6_passes_2 rfl rfl ?_
  refine r_cV2 (d := mX6_passes) (pc := 3) (dj := mX6_isAt) (a := 155) (kd := 6) dX6_passes_3 mlRX6_145 inX6_isAt selX6_isAt rfl ly155 (by decide) okX6_isAt (by decide) rfl (Nat.le_of_ble_eq_true rfl) (by decide) (by decide) (Fn_X6_isAt k I P hM hT c c) ?_
  refine r_istore_n (d := mX6_passes) (pc := 6) (i := 2) (lv' := [(0, .inr (some 155)), (1, .inl c), (2, .inl (bI (atB I c c = true)))]) dX6_passes_6 rfl (by decide) rfl rfl ?_
  refine r_aload_n (d := mX6_passes) (pc := 7) (i := 0) (v := 155) dX6_passes_7 rfl rfl ?_
  refine r_dup (d := mX6_passes) (pc := 8) dX6_passes_8 ?_
  refine r_getIs (d := mX6_passes) (pc := 9) (a := 155) (kd := 6) (j := 9) (x := (I 155 9)) dX6_passes_9 flRX6_138 ly155 (by decide) (by decide) rfl (rfl) ?_
  refine r_iload_n (d := mX6_passes) (pc := 12) (i := 2) (v := bI (atB I c c = true)) dX6_passes_12 rfl rfl ?_
  refine r_ifb_eq (d := mX6_passes) (pc := 13) (tgt := 20) dX6_passes_13 (by decide) (fun h13 => ?_) (fun h13 => ?_)
  · refine r_iconst (d := mX6_passes) (pc := 20) (n := 0) dX6_passes_20 ?_
    refine r_iadd (d := mX6_passes) (pc := 21) dX6_passes_21 ?_
    refine r_putIs (d := mX6_passes) (pc := 22) (a := 155) (kd := 6) (j := 9) (lay0, mUp I 155 9 ((I 155 9) + 0), P) dX6_passes_22 flRX6_138 ly155 (by decide) (by decide) rfl rfl (Or.inl rfl) rfl ?_
    refine r_iload_n (d := mX6_passes) (pc := 25) (i := 2) (v := bI (atB I c c = true)) dX6_passes_25 rfl rfl ?_
    exact r_zret (d := mX6_passes) (pc := 26) dX6_passes_26 rfl (bI_01 _) (rtI (by rfl) (by refine memE ?_; rw [paI, if_neg h13]; exact mUp_self _ (by omega))) (by decide) (by decide)
  · refine r_iconst (d := mX6_passes) (pc := 16) (n := 1) dX6_passes_16 ?_
    refine r_goto (d := mX6_passes) (pc := 17) (tgt := 21) dX6_passes_17 (by decide) ?_
    refine r_iadd (d := mX6_passes) (pc := 21) dX6_passes_21 ?_
    refine r_putIs (d := mX6_passes) (pc := 22) (a := 155) (kd := 6) (j := 9) (lay0, mUp I 155 9 ((I 155 9) + 1), P) dX6_passes_22 flRX6_138 ly155 (by decide) (by decide) rfl rfl (Or.inl rfl) rfl ?_
    refine r_iload_n (d := mX6_passes) (pc := 25) (i := 2) (v := bI (atB I c c = true)) dX6_passes_25 rfl rfl ?_
    exact r_zret (d := mX6_passes) (pc := 26) dX6_passes_26 rfl (bI_01 _) (rtI (by rfl) (by refine memE ?_; rw [paI, if_pos h13])) (by decide) (by decide)
set_option maxRecDepth 20000 in
set_option maxHeartbeats 4000000 in
theorem Fn_X6_isWord (k : Nat) (I : mIt) (P : mPt) (hM : isMd P) (hT : TxOK I) (x a b c d : Int) (hx0 : 0 ≤ x) (hx1 : x ≤ 80) (hd0 : 0 ≤ d) : WP (k + 1) mX6_isWord none (0, 0) (Rt (some (.inl (bI (wdB I x a b c d = true)))) (lay0, I, P)) 0 [(0, .inr (some 155)), (1, .inl x), (2, .inl a), (3, .inl b), (4, .inl c), (5, .inl d)] [] (lay0, I, P) := by
  have hT1 := hT.1
  have hT2 := hT.2.1
  refine r_aload_n (d := mX6_isWord) (pc := 0) (i := 0) (v := 155) dX6_isWord_0 rfl rfl ?_
  refine r_getIs (d := mX6_isWord) (pc := 1) (a := 155) (kd := 6) (j := 9) (x := (I 155 9)) dX6_isWord_1 flRX6_138 ly155 (by decide) (by decide) rfl (rfl) ?_
  refine r_iload_n (d := mX6_isWord) (pc := 4) (i := 1) (v := x) dX6_isWord_4 rfl rfl ?_
  refine r_isub (d := mX6_isWord) (pc := 5) dX6_isWord_5 ?_
  refine r_iload (d := mX6_isWord) (pc := 6) (i := 5) (v := d) dX6_isWord_6 rfl ?_
  refine r_if_le (d := mX6_isWord) (pc := 8) (tgt := 15) dX6_isWord_8 (by decide) (fun h8 => ?_) (fun h8 => ?_)
  · refine r_iconst (d := mX6_isWord) (pc := 15) (n := 3) dX6_isWord_15 ?_
    refine r_icmp_ne (d := mX6_isWord) (pc := 16) (tgt := 58) dX6_isWord_16 (by decide) (fun h16 => ?_) (fun h16 => ?_)
    · refine r_iconst (d := mX6_isWord) (pc := 58) (n := 0) dX6_isWord_58 ?_
      refine r_istore (d := mX6_isWord) (pc := 59) (i := 6) (lv' := [(0, .inr (some 155)), (1, .inl x), (2, .inl a), (3, .inl b), (4, .inl c), (5, .inl d), (6, .inl 0)]) dX6_isWord_59 (by decide) rfl rfl ?_
      refine r_iload (d := mX6_isWord) (pc := 61) (i := 6) (v := 0) dX6_isWord_61 rfl ?_
      refine r_if_eq (d := mX6_isWord) (pc := 63) (tgt := 88) dX6_isWord_63 (by decide) (fun _ => ?_) (fun q => absurd q (by decide))
      refine r_iconst (d := mX6_isWord) (pc := 88) (n := 0) dX6_isWord_88 ?_
      exact r_zret (d := mX6_isWord) (pc := 89) dX6_isWord_89 rfl (Or.inl rfl) (rtI (by first | exact (bI_t (by simp only [wdB, decide_eq_true_eq]; (first | rw [if_pos (by omega)] | rw [if_neg (by omega)]); omega)).symm | exact (bI_f (by simp only [wdB, decide_eq_true_eq]; (first | rw [if_pos (by omega)] | rw [if_neg (by omega)]); omega)).symm) (by rfl)) (by decide) (by decide)
    · refine r_aload_n (d := mX6_isWord) (pc := 19) (i := 0) (v := 155) dX6_isWord_19 rfl rfl ?_
      refine r_getRs (d := mX6_isWord) (pc := 20) (a := 155) (kd := 6) (j := 6) (x := 160) dX6_isWord_20 flRX6_22 ly155 (by decide) (by decide) rfl hM.2.2.2.2.1 ?_
      refine r_iload_n (d := mX6_isWord) (pc := 23) (i := 1) (v := x) dX6_isWord_23 rfl rfl ?_
      refine r_ialds (d := mX6_isWord) (pc := 24) (a := 160) (x := (I 160 x)) dX6_isWord_24 ly160 (by omega) (by omega) (rfl) ?_
      refine r_iload_n (d := mX6_isWord) (pc := 25) (i := 2) (v := a) dX6_isWord_25 rfl rfl ?_
      refine r_icmp_ne (d := mX6_isWord) (pc := 26) (tgt := 58) dX6_isWord_26 (by decide) (fun h26 => ?_) (fun h26 => ?_)
      · refine r_iconst (d := mX6_isWord) (pc := 58) (n := 0) dX6_isWord_58 ?_
        refine r_istore (d := mX6_isWord) (pc := 59) (i := 6) (lv' := [(0, .inr (some 155)), (1, .inl x), (2, .inl a), (3, .inl b), (4, .inl c), (5, .inl d), (6, .inl 0)]) dX6_isWord_59 (by decide) rfl rfl ?_
        refine r_iload (d := mX6_isWord) (pc := 61) (i := 6) (v := 0) dX6_isWord_61 rfl ?_
        refine r_if_eq (d := mX6_isWord) (pc := 63) (tgt := 88) dX6_isWord_63 (by decide) (fun _ => ?_) (fun q => absurd q (by decide))
        refine r_iconst (d := mX6_isWord) (pc := 88) (n := 0) dX6_isWord_88 ?_
        exact r_zret (d := mX6_isWord) (pc := 89) dX6_isWord_89 rfl (Or.inl rfl) (rtI (by first | exact (bI_t (by simp only [wdB, decide_eq_true_eq]; (first | rw [if_pos (by omega)] | rw [if_neg (by omega)]); omega)).symm | exact (bI_f (by simp only [wdB, decide_eq_true_eq]; (first | rw [if_pos (by omega)] | rw [if_neg (by omega)]); omega)).symm) (by rfl)) (by decide) (by decide)
      · refine r_aload_n (d := mX6_isWord) (pc := 29) (i := 0) (v := 155) dX6_isWord_29 rfl rfl ?_
        refine r_getRs (d := mX6_isWord) (pc := 30) (a := 155) (kd := 6) (j := 6) (x := 160) dX6_isWord_30 flRX6_22 ly155 (by decide) (by decide) rfl hM.2.2.2.2.1 ?_
        refine r_iload_n (d := mX6_isWord) (pc := 33) (i := 1) (v := x) dX6_isWord_33 rfl rfl ?_
        refine r_iconst (d := mX6_isWord) (pc := 34) (n := 1) dX6_isWord_34 ?_
        refine r_iadd (d := mX6_isWord) (pc := 35) dX6_isWord_35 ?_
        refine r_ialds (d := mX6_isWord) (pc := 36) (a := 160) (x := (I 160 (x + 1))) dX6_isWord_36 ly160 (by omega) (by omega) (rfl) ?_
        refine r_iload_n (d := mX6_isWord) (pc := 37) (i := 3) (v := b) dX6_isWord_37 rfl rfl ?_
        refine r_icmp_ne (d := mX6_isWord) (pc := 38) (tgt := 58) dX6_isWord_38 (by decide) (fun h38 => ?_) (fun h38 => ?_)
        · refine r_iconst (d := mX6_isWord) (pc := 58) (n := 0) dX6_isWord_58 ?_
          refine r_istore (d := mX6_isWord) (pc := 59) (i := 6) (lv' := [(0, .inr (some 155)), (1, .inl x), (2, .inl a), (3, .inl b), (4, .inl c), (5, .inl d), (6, .inl 0)]) dX6_isWord_59 (by decide) rfl rfl ?_
          refine r_iload (d := mX6_isWord) (pc := 61) (i := 6) (v := 0) dX6_isWord_61 rfl ?_
          refine r_if_eq (d := mX6_isWord) (pc := 63) (tgt := 88) dX6_isWord_63 (by decide) (fun _ => ?_) (fun q => absurd q (by decide))
          refine r_iconst (d := mX6_isWord) (pc := 88) (n := 0) dX6_isWord_88 ?_
          exact r_zret (d := mX6_isWord) (pc := 89) dX6_isWord_89 rfl (Or.inl rfl) (rtI (by first | exact (bI_t (by simp only [wdB, decide_eq_true_eq]; (first | rw [if_pos (by omega)] | rw [if_neg (by omega)]); omega)).symm | exact (bI_f (by simp only [wdB, decide_eq_true_eq]; (first | rw [if_pos (by omega)] | rw [if_neg (by omega)]); omega)).symm) (by rfl)) (by decide) (by decide)
        · refine r_aload_n (d := mX6_isWord) (pc := 41) (i := 0) (v := 155) dX6_isWord_41 rfl rfl ?_
          refine r_getRs (d := mX6_isWord) (pc := 42) (a := 155) (kd := 6) (j := 6) (x := 160) dX6_isWord_42 flRX6_22 ly155 (by decide) (by decide) rfl hM.2.2.2.2.1 ?_
          refine r_iload_n (d := mX6_isWord) (pc := 45) (i := 1) (v := x) dX6_isWord_45 rfl rfl ?_
          refine r_iconst (d := mX6_isWord) (pc := 46) (n := 2) dX6_isWord_46 ?_
          refine r_iadd (d := mX6_isWord) (pc := 47) dX6_isWord_47 ?_
          refine r_ialds (d := mX6_isWord) (pc := 48) (a := 160) (x := (I 160 (x + 2))) dX6_isWord_48 ly160 (by omega) (by omega) (rfl) ?_
          refine r_iload (d := mX6_isWord) (pc := 49) (i := 4) (v := c) dX6_isWord_49 rfl ?_
          refine r_icmp_ne (d := mX6_isWord) (pc := 51) (tgt := 58) dX6_isWord_51 (by decide) (fun h51 => ?_) (fun h51 => ?_)
          · refine r_iconst (d := mX6_isWord) (pc := 58) (n := 0) dX6_isWord_58 ?_
            refine r_istore (d := mX6_isWord) (pc := 59) (i := 6) (lv' := [(0, .inr (some 155)), (1, .inl x), (2, .inl a), (3, .inl b), (4, .inl c), (5, .inl d), (6, .inl 0)]) dX6_isWord_59 (by decide) rfl rfl ?_
            refine r_iload (d := mX6_isWord) (pc := 61) (i := 6) (v := 0) dX6_isWord_61 rfl ?_
            refine r_if_eq (d := mX6_isWord) (pc := 63) (tgt := 88) dX6_isWord_63 (by decide) (fun _ => ?_) (fun q => absurd q (by decide))
            refine r_iconst (d := mX6_isWord) (pc := 88) (n := 0) dX6_isWord_88 ?_
            exact r_zret (d := mX6_isWord) (pc := 89) dX6_isWord_89 rfl (Or.inl rfl) (rtI (by first | exact (bI_t (by simp only [wdB, decide_eq_true_eq]; (first | rw [if_pos (by omega)] | rw [if_neg (by omega)]); omega)).symm | exact (bI_f (by simp only [wdB, decide_eq_true_eq]; (first | rw [if_pos (by omega)] | rw [if_neg (by omega)]); omega)).symm) (by rfl)) (by decide) (by decide)
          · refine r_iconst (d := mX6_isWord) (pc := 54) (n := 1) dX6_isWord_54 ?_
            refine r_goto (d := mX6_isWord) (pc := 55) (tgt := 59) dX6_isWord_55 (by decide) ?_
            refine r_istore (d := mX6_isWord) (pc := 59) (i := 6) (lv' := [(0, .inr (some 155)), (1, .inl x), (2, .inl a), (3, .inl b), (4, .inl c), (5, .inl d), (6, .inl 1)]) dX6_isWord_59 (by decide) rfl rfl ?_
            refine r_iload (d := mX6_isWord) (pc := 61) (i := 6) (v := 1) dX6_isWord_61 rfl ?_
            refine r_if_eq (d := mX6_isWord) (pc := 63) (tgt := 88) dX6_isWord_63 (by decide) (fun q => absurd q (by decide)) (fun _ => ?_)
            refine r_iload (d := mX6_isWord) (pc := 66) (i := 5) (v := d) dX6_isWord_66 rfl ?_
            refine r_if_eq (d := mX6_isWord) (pc := 68) (tgt := 84) dX6_isWord_68 (by decide) (fun h68 => ?_) (fun h68 => ?_)
            · refine r_iconst (d := mX6_isWord) (pc := 84) (n := 1) dX6_isWord_84 ?_
              refine r_goto (d := mX6_isWord) (pc := 85) (tgt := 89) dX6_isWord_85 (by decide) ?_
              exact r_zret (d := mX6_isWord) (pc := 89) dX6_isWord_89 rfl (Or.inr rfl) (rtI (by first | exact (bI_t (by simp only [wdB, decide_eq_true_eq]; (first | rw [if_pos (by omega)] | rw [if_neg (by omega)]); omega)).symm | exact (bI_f (by simp only [wdB, decide_eq_true_eq]; (first | rw [if_pos (by omega)] | rw [if_neg (by omega)]); omega)).symm) (by rfl)) (by decide) (by decide)
            · refine r_aload_n (d := mX6_isWord) (pc := 71) (i := 0) (v := 155) dX6_isWord_71 rfl rfl ?_
              refine r_getRs (d := mX6_isWord) (pc := 72) (a := 155) (kd := 6) (j := 6) (x := 160) dX6_isWord_72 flRX6_22 ly155 (by decide) (by decide) rfl hM.2.2.2.2.1 ?_
              refine r_iload_n (d := mX6_isWord) (pc := 75) (i := 1) (v := x) dX6_isWord_75 rfl rfl ?_
              refine r_iconst (d := mX6_isWord) (pc := 76) (n := 3) dX6_isWord_76 ?_
              refine r_iadd (d := mX6_isWord) (pc := 77) dX6_isWord_77 ?_
              refine r_ialds (d := mX6_isWord) (pc := 78) (a := 160) (x := (I 160 (x + 3))) dX6_isWord_78 ly160 (by omega) (by omega) (rfl) ?_
              refine r_iload (d := mX6_isWord) (pc := 79) (i := 5) (v := d) dX6_isWord_79 rfl ?_
              refine r_icmp_ne (d := mX6_isWord) (pc := 81) (tgt := 88) dX6_isWord_81 (by decide) (fun h81 => ?_) (fun h81 => ?_)
              · refine r_iconst (d := mX6_isWord) (pc := 88) (n := 0) dX6_isWord_88 ?_
                exact r_zret (d := mX6_isWord) (pc := 89) dX6_isWord_89 rfl (Or.inl rfl) (rtI (by first | exact (bI_t (by simp only [wdB, decide_eq_true_eq]; (first | rw [if_pos (by omega)] | rw [if_neg (by omega)]); omega)).symm | exact (bI_f (by simp only [wdB, decide_eq_true_eq]; (first | rw [if_pos (by omega)] | rw [if_neg (by omega)]); omega)).symm) (by rfl)) (by decide) (by decide)
              · refine r_iconst (d := mX6_isWord) (pc := 84) (n := 1) dX6_isWord_84 ?_
                refine r_goto (d := mX6_isWord) (pc := 85) (tgt := 89) dX6_isWord_85 (by decide) ?_
                exact r_zret (d := mX6_isWord) (pc := 89) dX6_isWord_89 rfl (Or.inr rfl) (rtI (by first | exact (bI_t (by simp only [wdB, decide_eq_true_eq]; (first | rw [if_pos (by omega)] | rw [if_neg (by omega)]); omega)).symm | exact (bI_f (by simp only [wdB, decide_eq_true_eq]; (first | rw [if_pos (by omega)] | rw [if_neg (by omega)]); omega)).symm) (by rfl)) (by decide) (by decide)
  · refine r_iconst (d := mX6_isWord) (pc := 11) (n := 4) dX6_isWord_11 ?_
    refine r_goto (d := mX6_isWord) (pc := 12) (tgt := 16) dX6_isWord_12 (by decide) ?_
    refine r_icmp_ne (d := mX6_isWord) (pc := 16) (tgt := 58) dX6_isWord_16 (by decide) (fun h16 => ?_) (fun h16 => ?_)
    · refine r_iconst (d := mX6_isWord) (pc := 58) (n := 0) dX6_isWord_58 ?_
      refine r_istore (d := mX6_isWord) (pc := 59) (i := 6) (lv' := [(0, .inr (some 155)), (1, .inl x), (2, .inl a), (3, .inl b), (4, .inl c), (5, .inl d), (6, .inl 0)]) dX6_isWord_59 (by decide) rfl rfl ?_
      refine r_iload (d := mX6_isWord) (pc := 61) (i := 6) (v := 0) dX6_isWord_61 rfl ?_
      refine r_if_eq (d := mX6_isWord) (pc := 63) (tgt := 88) dX6_isWord_63 (by decide) (fun _ => ?_) (fun q => absurd q (by decide))
      refine r_iconst (d := mX6_isWord) (pc := 88) (n := 0) dX6_isWord_88 ?_
      exact r_zret (d := mX6_isWord) (pc := 89) dX6_isWord_89 rfl (Or.inl rfl) (rtI (by first | exact (bI_t (by simp only [wdB, decide_eq_true_eq]; (first | rw [if_pos (by omega)] | rw [if_neg (by omega)]); omega)).symm | exact (bI_f (by simp only [wdB, decide_eq_true_eq]; (first | rw [if_pos (by omega)] | rw [if_neg (by omega)]); omega)).symm) (by rfl)) (by decide) (by decide)
    · refine r_aload_n (d := mX6_isWord) (pc := 19) (i := 0) (v := 155) dX6_isWord_19 rfl rfl ?_
      refine r_getRs (d := mX6_isWord) (pc := 20) (a := 155) (kd := 6) (j := 6) (x := 160) dX6_isWord_20 flRX6_22 ly155 (by decide) (by decide) rfl hM.2.2.2.2.1 ?_
      refine r_iload_n (d := mX6_isWord) (pc := 23) (i := 1) (v := x) dX6_isWord_23 rfl rfl ?_
      refine r_ialds (d := mX6_isWord) (pc := 24) (a := 160) (x := (I 160 x)) dX6_isWord_24 ly160 (by omega) (by omega) (rfl) ?_
      refine r_iload_n (d := mX6_isWord) (pc := 25) (i := 2) (v := a) dX6_isWord_25 rfl rfl ?_
      refine r_icmp_ne (d := mX6_isWord) (pc := 26) (tgt := 58) dX6_isWord_26 (by decide) (fun h26 => ?_) (fun h26 => ?_)
      · refine r_iconst (d := mX6_isWord) (pc := 58) (n := 0) dX6_isWord_58 ?_
        refine r_istore (d := mX6_isWord) (pc := 59) (i := 6) (lv' := [(0, .inr (some 155)), (1, .inl x), (2, .inl a), (3, .inl b), (4, .inl c), (5, .inl d), (6, .inl 0)]) dX6_isWord_59 (by decide) rfl rfl ?_
        refine r_iload (d := mX6_isWord) (pc := 61) (i := 6) (v := 0) dX6_isWord_61 rfl ?_
        refine r_if_eq (d := mX6_isWord) (pc := 63) (tgt := 88) dX6_isWord_63 (by decide) (fun _ => ?_) (fun q => absurd q (by decide))
        refine r_iconst (d := mX6_isWord) (pc := 88) (n := 0) dX6_isWord_88 ?_
        exact r_zret (d := mX6_isWord) (pc := 89) dX6_isWord_89 rfl (Or.inl rfl) (rtI (by first | exact (bI_t (by simp only [wdB, decide_eq_true_eq]; (first | rw [if_pos (by omega)] | rw [if_neg (by omega)]); omega)).symm | exact (bI_f (by simp only [wdB, decide_eq_true_eq]; (first | rw [if_pos (by omega)] | rw [if_neg (by omega)]); omega)).symm) (by rfl)) (by decide) (by decide)
      · refine r_aload_n (d := mX6_isWord) (pc := 29) (i := 0) (v := 155) dX6_isWord_29 rfl rfl ?_
        refine r_getRs (d := mX6_isWord) (pc := 30) (a := 155) (kd := 6) (j := 6) (x := 160) dX6_isWord_30 flRX6_22 ly155 (by decide) (by decide) rfl hM.2.2.2.2.1 ?_
        refine r_iload_n (d := mX6_isWord) (pc := 33) (i := 1) (v := x) dX6_isWord_33 rfl rfl ?_
        refine r_iconst (d := mX6_isWord) (pc := 34) (n := 1) dX6_isWord_34 ?_
        refine r_iadd (d := mX6_isWord) (pc := 35) dX6_isWord_35 ?_
        refine r_ialds (d := mX6_isWord) (pc := 36) (a := 160) (x := (I 160 (x + 1))) dX6_isWord_36 ly160 (by omega) (by omega) (rfl) ?_
        refine r_iload_n (d := mX6_isWord) (pc := 37) (i := 3) (v := b) dX6_isWord_37 rfl rfl ?_
        refine r_icmp_ne (d := mX6_isWord) (pc := 38) (tgt := 58) dX6_isWord_38 (by decide) (fun h38 => ?_) (fun h38 => ?_)
        · refine r_iconst (d := mX6_isWord) (pc := 58) (n := 0) dX6_isWord_58 ?_
          refine r_istore (d := mX6_isWord) (pc := 59) (i := 6) (lv' := [(0, .inr (some 155)), (1, .inl x), (2, .inl a), (3, .inl b), (4, .inl c), (5, .inl d), (6, .inl 0)]) dX6_isWord_59 (by decide) rfl rfl ?_
          refine r_iload (d := mX6_isWord) (pc := 61) (i := 6) (v := 0) dX6_isWord_61 rfl ?_
          refine r_if_eq (d := mX6_isWord) (pc := 63) (tgt := 88) dX6_isWord_63 (by decide) (fun _ => ?_) (fun q => absurd q (by decide))
          refine r_iconst (d := mX6_isWord) (pc := 88) (n := 0) dX6_isWord_88 ?_
          exact r_zret (d := mX6_isWord) (pc := 89) dX6_isWord_89 rfl (Or.inl rfl) (rtI (by first | exact (bI_t (by simp only [wdB, decide_eq_true_eq]; (first | rw [if_pos (by omega)] | rw [if_neg (by omega)]); omega)).symm | exact (bI_f (by simp only [wdB, decide_eq_true_eq]; (first | rw [if_pos (by omega)] | rw [if_neg (by omega)]); omega)).symm) (by rfl)) (by decide) (by decide)
        · refine r_aload_n (d := mX6_isWord) (pc := 41) (i := 0) (v := 155) dX6_isWord_41 rfl rfl ?_
          refine r_getRs (d := mX6_isWord) (pc := 42) (a := 155) (kd := 6) (j := 6) (x := 160) dX6_isWord_42 flRX6_22 ly155 (by decide) (by decide) rfl hM.2.2.2.2.1 ?_
          refine r_iload_n (d := mX6_isWord) (pc := 45) (i := 1) (v := x) dX6_isWord_45 rfl rfl ?_
          refine r_iconst (d := mX6_isWord) (pc := 46) (n := 2) dX6_isWord_46 ?_
          refine r_iadd (d := mX6_isWord) (pc := 47) dX6_isWord_47 ?_
          refine r_ialds (d := mX6_isWord) (pc := 48) (a := 160) (x := (I 160 (x + 2))) dX6_isWord_48 ly160 (by omega) (by omega) (rfl) ?_
          refine r_iload (d := mX6_isWord) (pc := 49) (i := 4) (v := c) dX6_isWord_49 rfl ?_
          refine r_icmp_ne (d := mX6_isWord) (pc := 51) (tgt := 58) dX6_isWord_51 (by decide) (fun h51 => ?_) (fun h51 => ?_)
          · refine r_iconst (d := mX6_isWord) (pc := 58) (n := 0) dX6_isWord_58 ?_
            refine r_istore (d := mX6_isWord) (pc := 59) (i := 6) (lv' := [(0, .inr (some 155)), (1, .inl x), (2, .inl a), (3, .inl b), (4, .inl c), (5, .inl d), (6, .inl 0)]) dX6_isWord_59 (by decide) rfl rfl ?_
            refine r_iload (d := mX6_isWord) (pc := 61) (i := 6) (v := 0) dX6_isWord_61 rfl ?_
            refine r_if_eq (d := mX6_isWord) (pc := 63) (tgt := 88) dX6_isWord_63 (by decide) (fun _ => ?_) (fun q => absurd q (by decide))
            refine r_iconst (d := mX6_isWord) (pc := 88) (n := 0) dX6_isWord_88 ?_
            exact r_zret (d := mX6_isWord) (pc := 89) dX6_isWord_89 rfl (Or.inl rfl) (rtI (by first | exact (bI_t (by simp only [wdB, decide_eq_true_eq]; (first | rw [if_pos (by omega)] | rw [if_neg (by omega)]); omega)).symm | exact (bI_f (by simp only [wdB, decide_eq_true_eq]; (first | rw [if_pos (by omega)] | rw [if_neg (by omega)]); omega)).symm) (by rfl)) (by decide) (by decide)
          · refine r_iconst (d := mX6_isWord) (pc := 54) (n := 1) dX6_isWord_54 ?_
            refine r_goto (d := mX6_isWord) (pc := 55) (tgt := 59) dX6_isWord_55 (by decide) ?_
            refine r_istore (d := mX6_isWord) (pc := 59) (i := 6) (lv' := [(0, .inr (some 155)), (1, .inl x), (2, .inl a), (3, .inl b), (4, .inl c), (5, .inl d), (6, .inl 1)]) dX6_isWord_59 (by decide) rfl rfl ?_
            refine r_iload (d := mX6_isWord) (pc := 61) (i := 6) (v := 1) dX6_isWord_61 rfl ?_
            refine r_if_eq (d := mX6_isWord) (pc := 63) (tgt := 88) dX6_isWord_63 (by decide) (fun q => absurd q (by decide)) (fun _ => ?_)
            refine r_iload (d := mX6_isWord) (pc := 66) (i := 5) (v := d) dX6_isWord_66 rfl ?_
            refine r_if_eq (d := mX6_isWord) (pc := 68) (tgt := 84) dX6_isWord_68 (by decide) (fun h68 => ?_) (fun h68 => ?_)
            · refine r_iconst (d := mX6_isWord) (pc := 84) (n := 1) dX6_isWord_84 ?_
              refine r_goto (d := mX6_isWord) (pc := 85) (tgt := 89) dX6_isWord_85 (by decide) ?_
              exact r_zret (d := mX6_isWord) (pc := 89) dX6_isWord_89 rfl (Or.inr rfl) (rtI (by first | exact (bI_t (by simp only [wdB, decide_eq_true_eq]; (first | rw [if_pos (by omega)] | rw [if_neg (by omega)]); omega)).symm | exact (bI_f (by simp only [wdB, decide_eq_true_eq]; (first | rw [if_pos (by omega)] | rw [if_neg (by omega)]); omega)).symm) (by rfl)) (by decide) (by decide)
            · refine r_aload_n (d := mX6_isWord) (pc := 71) (i := 0) (v := 155) dX6_isWord_71 rfl rfl ?_
              refine r_getRs (d := mX6_isWord) (pc := 72) (a := 155) (kd := 6) (j := 6) (x := 160) dX6_isWord_72 flRX6_22 ly155 (by decide) (by decide) rfl hM.2.2.2.2.1 ?_
              refine r_iload_n (d := mX6_isWord) (pc := 75) (i := 1) (v := x) dX6_isWord_75 rfl rfl ?_
              refine r_iconst (d := mX6_isWord) (pc := 76) (n := 3) dX6_isWord_76 ?_
              refine r_iadd (d := mX6_isWord) (pc := 77) dX6_isWord_77 ?_
              refine r_ialds (d := mX6_isWord) (pc := 78) (a := 160) (x := (I 160 (x + 3))) dX6_isWord_78 ly160 (by omega) (by omega) (rfl) ?_
              refine r_iload (d := mX6_isWord) (pc := 79) (i := 5) (v := d) dX6_isWord_79 rfl ?_
              refine r_icmp_ne (d := mX6_isWord) (pc := 81) (tgt := 88) dX6_isWord_81 (by decide) (fun h81 => ?_) (fun h81 => ?_)
              · refine r_iconst (d := mX6_isWord) (pc := 88) (n := 0) dX6_isWord_88 ?_
                exact r_zret (d := mX6_isWord) (pc := 89) dX6_isWord_89 rfl (Or.inl rfl) (rtI (by first | exact (bI_t (by simp only [wdB, decide_eq_true_eq]; (first | rw [if_pos (by omega)] | rw [if_neg (by omega)]); omega)).symm | exact (bI_f (by simp only [wdB, decide_eq_true_eq]; (first | rw [if_pos (by omega)] | rw [if_neg (by omega)]); omega)).symm) (by rfl)) (by decide) (by decide)
              · refine r_iconst (d := mX6_isWord) (pc := 84) (n := 1) dX6_isWord_84 ?_
                refine r_goto (d := mX6_isWord) (pc := 85) (tgt := 89) dX6_isWord_85 (by decide) ?_
                exact r_zret (d := mX6_isWord) (pc := 89) dX6_isWord_89 rfl (Or.inr rfl) (rtI (by first | exact (bI_t (by simp only [wdB, decide_eq_true_eq]; (first | rw [if_pos (by omega)] | rw [if_neg (by omega)]); omega)).symm | exact (bI_f (by simp only [wdB, decide_eq_true_eq]; (first | rw [if_pos (by omega)] | rw [if_neg (by omega)]); omega)).symm) (by rfl)) (by decide) (by decide)
set_option maxRecDepth 20000 in
set_option maxHeartbeats 4000000 in
theorem Fn_X6_wordAt (k : Nat) (I : mIt) (P : mPt) (hM : isMd P) (hT : TxOK I) (x : Int) (hx0 : 0 ≤ x) (hx1 : x ≤ 80) : WP (k + 2) mX6_wordAt none (0, 0) (Rt (some (.inl (wdV I x))) (lay0, I, P)) 0 [(0, .inr (some 155)), (1, .inl x)] [] (lay0, I, P) := by
  refine r_aload_n (d := mX6_wordAt) (pc := 0) (i := 0) (v := 155) dX6_wordAt_0 rfl rfl ?_
  refine r_iload_n (d := mX6_wordAt) (pc := 1) (i := 1) (v := x) dX6_wordAt_1 rfl rfl ?_
  refine r_bipush (d := mX6_wordAt) (pc := 2) (n := 97) dX6_wordAt_2 ?_
  refine r_bipush (d := mX6_wordAt) (pc := 4) (n := 100) dX6_wordAt_4 ?_
  refine r_bipush (d := mX6_wordAt) (pc := 6) (n := 100) dX6_wordAt_6 ?_
  refine r_iconst (d := mX6_wordAt) (pc := 8) (n := 0) dX6_wordAt_8 ?_
  refine r_cV5 (d := mX6_wordAt) (pc := 9) (dj := mX6_isWord) (a := 155) (kd := 6) dX6_wordAt_9 mlRX6_141 inX6_isWord selX6_isWord rfl ly155 (by decide) okX6_isWord (by decide) rfl (Nat.le_of_ble_eq_true rfl) (by decide) (by decide) (Fn_X6_isWord k I P hM hT x 97 100 100 0 (by omega) (by omega) (by decide)) ?_
  refine r_ifb_eq (d := mX6_wordAt) (pc := 12) (tgt := 17) dX6_wordAt_12 (by decide) (fun h12 => ?_) (fun h12 => ?_)
  · refine r_aload_n (d := mX6_wordAt) (pc := 17) (i := 0) (v := 155) dX6_wordAt_17 rfl rfl ?_
    refine r_iload_n (d := mX6_wordAt) (pc := 18) (i := 1) (v := x) dX6_wordAt_18 rfl rfl ?_
    refine r_bipush (d := mX6_wordAt) (pc := 19) (n := 115) dX6_wordAt_19 ?_
    refine r_bipush (d := mX6_wordAt) (pc := 21) (n := 117) dX6_wordAt_21 ?_
    refine r_bipush (d := mX6_wordAt) (pc := 23) (n := 98) dX6_wordAt_23 ?_
    refine r_iconst (d := mX6_wordAt) (pc := 25) (n := 0) dX6_wordAt_25 ?_
    refine r_cV5 (d := mX6_wordAt) (pc := 26) (dj := mX6_isWord) (a := 155) (kd := 6) dX6_wordAt_26 mlRX6_141 inX6_isWord selX6_isWord rfl ly155 (by decide) okX6_isWord (by decide) rfl (Nat.le_of_ble_eq_true rfl) (by decide) (by decide) (Fn_X6_isWord k I P hM hT x 115 117 98 0 (by omega) (by omega) (by decide)) ?_
    refine r_ifb_eq (d := mX6_wordAt) (pc := 29) (tgt := 34) dX6_wordAt_29 (by decide) (fun h29 => ?_) (fun h29 => ?_)
    · refine r_aload_n (d := mX6_wordAt) (pc := 34) (i := 0) (v := 155) dX6_wordAt_34 rfl rfl ?_
      refine r_iload_n (d := mX6_wordAt) (pc := 35) (i := 1) (v := x) dX6_wordAt_35 rfl rfl ?_
      refine r_bipush (d := mX6_wordAt) (pc := 36) (n := 109) dX6_wordAt_36 ?_
      refine r_bipush (d := mX6_wordAt) (pc := 38) (n := 117) dX6_wordAt_38 ?_
      refine r_bipush (d := mX6_wordAt) (pc := 40) (n := 108) dX6_wordAt_40 ?_
      refine r_iconst (d := mX6_wordAt) (pc := 42) (n := 0) dX6_wordAt_42 ?_
      refine r_cV5 (d := mX6_wordAt) (pc := 43) (dj := mX6_isWord) (a := 155) (kd := 6) dX6_wordAt_43 mlRX6_141 inX6_isWord selX6_isWord rfl ly155 (by decide) okX6_isWord (by decide) rfl (Nat.le_of_ble_eq_true rfl) (by decide) (by decide) (Fn_X6_isWord k I P hM hT x 109 117 108 0 (by omega) (by omega) (by decide)) ?_
      refine r_ifb_eq (d := mX6_wordAt) (pc := 46) (tgt := 51) dX6_wordAt_46 (by decide) (fun h46 => ?_) (fun h46 => ?_)
      · refine r_aload_n (d := mX6_wordAt) (pc := 51) (i := 0) (v := 155) dX6_wordAt_51 rfl rfl ?_
        refine r_iload_n (d := mX6_wordAt) (pc := 52) (i := 1) (v := x) dX6_wordAt_52 rfl rfl ?_
        refine r_bipush (d := mX6_wordAt) (pc := 53) (n := 112) dX6_wordAt_53 ?_
        refine r_bipush (d := mX6_wordAt) (pc := 55) (n := 117) dX6_wordAt_55 ?_
        refine r_bipush (d := mX6_wordAt) (pc := 57) (n := 116) dX6_wordAt_57 ?_
        refine r_iconst (d := mX6_wordAt) (pc := 59) (n := 0) dX6_wordAt_59 ?_
        refine r_cV5 (d := mX6_wordAt) (pc := 60) (dj := mX6_isWord) (a := 155) (kd := 6) dX6_wordAt_60 mlRX6_141 inX6_isWord selX6_isWord rfl ly155 (by decide) okX6_isWord (by decide) rfl (Nat.le_of_ble_eq_true rfl) (by decide) (by decide) (Fn_X6_isWord k I P hM hT x 112 117 116 0 (by omega) (by omega) (by decide)) ?_
        refine r_ifb_eq (d := mX6_wordAt) (pc := 63) (tgt := 68) dX6_wordAt_63 (by decide) (fun h63 => ?_) (fun h63 => ?_)
        · refine r_aload_n (d := mX6_wordAt) (pc := 68) (i := 0) (v := 155) dX6_wordAt_68 rfl rfl ?_
          refine r_iload_n (d := mX6_wordAt) (pc := 69) (i := 1) (v := x) dX6_wordAt_69 rfl rfl ?_
          refine r_bipush (d := mX6_wordAt) (pc := 70) (n := 99) dX6_wordAt_70 ?_
          refine r_bipush (d := mX6_wordAt) (pc := 72) (n := 111) dX6_wordAt_72 ?_
          refine r_bipush (d := mX6_wordAt) (pc := 74) (n := 112) dX6_wordAt_74 ?_
          refine r_bipush (d := mX6_wordAt) (pc := 76) (n := 121) dX6_wordAt_76 ?_
          refine r_cV5 (d := mX6_wordAt) (pc := 78) (dj := mX6_isWord) (a := 155) (kd := 6) dX6_wordAt_78 mlRX6_141 inX6_isWord selX6_isWord rfl ly155 (by decide) okX6_isWord (by decide) rfl (Nat.le_of_ble_eq_true rfl) (by decide) (by decide) (Fn_X6_isWord k I P hM hT x 99 111 112 121 (by omega) (by omega) (by decide)) ?_
          refine r_ifb_eq (d := mX6_wordAt) (pc := 81) (tgt := 86) dX6_wordAt_81 (by decide) (fun h81 => ?_) (fun h81 => ?_)
          · refine r_aload_n (d := mX6_wordAt) (pc := 86) (i := 0) (v := 155) dX6_wordAt_86 rfl rfl ?_
            refine r_iload_n (d := mX6_wordAt) (pc := 87) (i := 1) (v := x) dX6_wordAt_87 rfl rfl ?_
            refine r_bipush (d := mX6_wordAt) (pc := 88) (n := 116) dX6_wordAt_88 ?_
            refine r_bipush (d := mX6_wordAt) (pc := 90) (n := 105) dX6_wordAt_90 ?_
            refine r_bipush (d := mX6_wordAt) (pc := 92) (n := 99) dX6_wordAt_92 ?_
            refine r_bipush (d := mX6_wordAt) (pc := 94) (n := 107) dX6_wordAt_94 ?_
            refine r_cV5 (d := mX6_wordAt) (pc := 96) (dj := mX6_isWord) (a := 155) (kd := 6) dX6_wordAt_96 mlRX6_141 inX6_isWord selX6_isWord rfl ly155 (by decide) okX6_isWord (by decide) rfl (Nat.le_of_ble_eq_true rfl) (by decide) (by decide) (Fn_X6_isWord k I P hM hT x 116 105 99 107 (by omega) (by omega) (by decide)) ?_
            refine r_ifb_eq (d := mX6_wordAt) (pc := 99) (tgt := 104) dX6_wordAt_99 (by decide) (fun h99 => ?_) (fun h99 => ?_)
            · refine r_aload_n (d := mX6_wordAt) (pc := 104) (i := 0) (v := 155) dX6_wordAt_104 rfl rfl ?_
              refine r_iload_n (d := mX6_wordAt) (pc := 105) (i := 1) (v := x) dX6_wordAt_105 rfl rfl ?_
              refine r_bipush (d := mX6_wordAt) (pc := 106) (n := 109) dX6_wordAt_106 ?_
              refine r_bipush (d := mX6_wordAt) (pc := 108) (n := 97) dX6_wordAt_108 ?_
              refine r_bipush (d := mX6_wordAt) (pc := 110) (n := 114) dX6_wordAt_110 ?_
              refine r_bipush (d := mX6_wordAt) (pc := 112) (n := 107) dX6_wordAt_112 ?_
              refine r_cV5 (d := mX6_wordAt) (pc := 114) (dj := mX6_isWord) (a := 155) (kd := 6) dX6_wordAt_114 mlRX6_141 inX6_isWord selX6_isWord rfl ly155 (by decide) okX6_isWord (by decide) rfl (Nat.le_of_ble_eq_true rfl) (by decide) (by decide) (Fn_X6_isWord k I P hM hT x 109 97 114 107 (by omega) (by omega) (by decide)) ?_
              refine r_ifb_eq (d := mX6_wordAt) (pc := 117) (tgt := 125) dX6_wordAt_117 (by decide) (fun h117 => ?_) (fun h117 => ?_)
              · refine r_aload_n (d := mX6_wordAt) (pc := 125) (i := 0) (v := 155) dX6_wordAt_125 rfl rfl ?_
                refine r_iload_n (d := mX6_wordAt) (pc := 126) (i := 1) (v := x) dX6_wordAt_126 rfl rfl ?_
                refine r_bipush (d := mX6_wordAt) (pc := 127) (n := 107) dX6_wordAt_127 ?_
                refine r_bipush (d := mX6_wordAt) (pc := 129) (n := 101) dX6_wordAt_129 ?_
                refine r_bipush (d := mX6_wordAt) (pc := 131) (n := 101) dX6_wordAt_131 ?_
                refine r_bipush (d := mX6_wordAt) (pc := 133) (n := 112) dX6_wordAt_133 ?_
                refine r_cV5 (d := mX6_wordAt) (pc := 135) (dj := mX6_isWord) (a := 155) (kd := 6) dX6_wordAt_135 mlRX6_141 inX6_isWord selX6_isWord rfl ly155 (by decide) okX6_isWord (by decide) rfl (Nat.le_of_ble_eq_true rfl) (by decide) (by decide) (Fn_X6_isWord k I P hM hT x 107 101 101 112 (by omega) (by omega) (by decide)) ?_
                refine r_ifb_eq (d := mX6_wordAt) (pc := 138) (tgt := 146) dX6_wordAt_138 (by decide) (fun h138 => ?_) (fun h138 => ?_)
                · refine r_aload_n (d := mX6_wordAt) (pc := 146) (i := 0) (v := 155) dX6_wordAt_146 rfl rfl ?_
                  refine r_iload_n (d := mX6_wordAt) (pc := 147) (i := 1) (v := x) dX6_wordAt_147 rfl rfl ?_
                  refine r_bipush (d := mX6_wordAt) (pc := 148) (n := 98) dX6_wordAt_148 ?_
                  refine r_bipush (d := mX6_wordAt) (pc := 150) (n := 97) dX6_wordAt_150 ?_
                  refine r_bipush (d := mX6_wordAt) (pc := 152) (n := 99) dX6_wordAt_152 ?_
                  refine r_bipush (d := mX6_wordAt) (pc := 154) (n := 107) dX6_wordAt_154 ?_
                  refine r_cV5 (d := mX6_wordAt) (pc := 156) (dj := mX6_isWord) (a := 155) (kd := 6) dX6_wordAt_156 mlRX6_141 inX6_isWord selX6_isWord rfl ly155 (by decide) okX6_isWord (by decide) rfl (Nat.le_of_ble_eq_true rfl) (by decide) (by decide) (Fn_X6_isWord k I P hM hT x 98 97 99 107 (by omega) (by omega) (by decide)) ?_
                  refine r_ifb_eq (d := mX6_wordAt) (pc := 159) (tgt := 167) dX6_wordAt_159 (by decide) (fun h159 => ?_) (fun h159 => ?_)
                  · refine r_bipush (d := mX6_wordAt) (pc := 167) (n := (-4)) dX6_wordAt_167 ?_
                    exact r_iret (d := mX6_wordAt) (pc := 169) dX6_wordAt_169 rfl (rtI (by unfold wdV; repeat (first | rw [if_pos (by first | assumption | omega)] | rw [if_neg (by first | assumption | omega)])) (by rfl)) (by decide) (by decide)
                  · refine r_bipush (d := mX6_wordAt) (pc := 162) (n := 8) dX6_wordAt_162 ?_
                    refine r_goto (d := mX6_wordAt) (pc := 164) (tgt := 169) dX6_wordAt_164 (by decide) ?_
                    exact r_iret (d := mX6_wordAt) (pc := 169) dX6_wordAt_169 rfl (rtI (by unfold wdV; repeat (first | rw [if_pos (by first | assumption | omega)] | rw [if_neg (by first | assumption | omega)])) (by rfl)) (by decide) (by decide)
                · refine r_bipush (d := mX6_wordAt) (pc := 141) (n := 7) dX6_wordAt_141 ?_
                  refine r_goto (d := mX6_wordAt) (pc := 143) (tgt := 169) dX6_wordAt_143 (by decide) ?_
                  exact r_iret (d := mX6_wordAt) (pc := 169) dX6_wordAt_169 rfl (rtI (by unfold wdV; repeat (first | rw [if_pos (by first | assumption | omega)] | rw [if_neg (by first | assumption | omega)])) (by rfl)) (by decide) (by decide)
              · refine r_bipush (d := mX6_wordAt) (pc := 120) (n := 6) dX6_wordAt_120 ?_
                refine r_goto (d := mX6_wordAt) (pc := 122) (tgt := 169) dX6_wordAt_122 (by decide) ?_
                exact r_iret (d := mX6_wordAt) (pc := 169) dX6_wordAt_169 rfl (rtI (by unfold wdV; repeat (first | rw [if_pos (by first | assumption | omega)] | rw [if_neg (by first | assumption | omega)])) (by rfl)) (by decide) (by decide)
            · refine r_iconst (d := mX6_wordAt) (pc := 102) (n := 5) dX6_wordAt_102 ?_
              exact r_iret (d := mX6_wordAt) (pc := 103) dX6_wordAt_103 rfl (rtI (by unfold wdV; repeat (first | rw [if_pos (by first | assumption | omega)] | rw [if_neg (by first | assumption | omega)])) (by rfl)) (by decide) (by decide)
          · refine r_iconst (d := mX6_wordAt) (pc := 84) (n := 4) dX6_wordAt_84 ?_
            exact r_iret (d := mX6_wordAt) (pc := 85) dX6_wordAt_85 rfl (rtI (by unfold wdV; repeat (first | rw [if_pos (by first | assumption | omega)] | rw [if_neg (by first | assumption | omega)])) (by rfl)) (by decide) (by decide)
        · refine r_iconst (d := mX6_wordAt) (pc := 66) (n := 3) dX6_wordAt_66 ?_
          exact r_iret (d := mX6_wordAt) (pc := 67) dX6_wordAt_67 rfl (rtI (by unfold wdV; repeat (first | rw [if_pos (by first | assumption | omega)] | rw [if_neg (by first | assumption | omega)])) (by rfl)) (by decide) (by decide)
      · refine r_iconst (d := mX6_wordAt) (pc := 49) (n := 2) dX6_wordAt_49 ?_
        exact r_iret (d := mX6_wordAt) (pc := 50) dX6_wordAt_50 rfl (rtI (by unfold wdV; repeat (first | rw [if_pos (by first | assumption | omega)] | rw [if_neg (by first | assumption | omega)])) (by rfl)) (by decide) (by decide)
    · refine r_iconst (d := mX6_wordAt) (pc := 32) (n := 1) dX6_wordAt_32 ?_
      exact r_iret (d := mX6_wordAt) (pc := 33) dX6_wordAt_33 rfl (rtI (by unfold wdV; repeat (first | rw [if_pos (by first | assumption | omega)] | rw [if_neg (by first | assumption | omega)])) (by rfl)) (by decide) (by decide)
  · refine r_iconst (d := mX6_wordAt) (pc := 15) (n := 0) dX6_wordAt_15 ?_
    exact r_iret (d := mX6_wordAt) (pc := 16) dX6_wordAt_16 rfl (rtI (by unfold wdV; repeat (first | rw [if_pos (by first | assumption | omega)] | rw [if_neg (by first | assumption | omega)])) (by rfl)) (by decide) (by decide)
