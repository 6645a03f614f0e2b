/-! ===== Room: settings, marks, a new beginning, ticks ===== -/
def csOk (what value : Int) : Prop := (0 ≤ what ∧ what ≤ 3) ∧ ((if what = 2 then 0 else 1) ≤ value ∧ value ≤ (if what = 3 then 3 else 9))
def csV (I : mIt) (b : Nat) (what value : Int) : Int := if (0 ≤ what ∧ what ≤ 3) ∧ ((if what = 2 then 0 else 1) ≤ value ∧ value ≤ (if what = 3 then 3 else 9)) then I (b + 1) what else -1
def csI (I : mIt) (b : Nat) (what value : Int) : mIt := if (0 ≤ what ∧ what ≤ 3) ∧ ((if what = 2 then 0 else 1) ≤ value ∧ value ≤ (if what = 3 then 3 else 9)) then mUp I (b + 1) what value else I
def amI (I : mIt) (b mc : Nat) : mIt := if 3 ≤ mc then I else mUp (cpy (cpy I (mC b mc) 8 (I (b + 3))) (mH b mc) 8 (I (b + 4))) b 6 (mc + 1 : Nat)
def dfm (I : mIt) (b : Nat) : mIt := cpy (cpy (cpy (cpy I (b + 17) 8 (I (b + 20))) (b + 18) 8 (I (b + 21))) (b + 20) 8 (I (b + 23))) (b + 21) 8 (I (b + 24))
def fgm (I : mIt) (m n : Nat) : mIt := cpy I m n (fun i => if 0 < I m i then I m i - 1 else I m i)
def dfI (I : mIt) (b n mc : Nat) : mIt := if mc = 0 then I else fgm (mUp (dfm I b) b 6 (mc - 1 : Nat)) (b + 14) n
def gbI (I : mIt) (b n mc : Nat) (m : Int) : mIt := if 0 ≤ m ∧ m < mc then mUp (mUp (cpy (cpy I (b + 3) 8 (I (mC b m))) (b + 4) 8 (I (mH b m))) b 6 m) (b + 9) 0 (dropF (I (b + 14)) m n : Nat) else I
def gbV (I : mIt) (b n mc : Nat) (m : Int) : Int := if 0 ≤ m ∧ m < mc then (n : Int) - (dropF (I (b + 14)) m n : Nat) else -1
def emI (I : mIt) (b : Nat) (c : Int) : mIt := cpy (cpy (mUp (mUp (mUp (mUp (mUp (mUp (mUp I b 0 c) b 1 0) b 2 0) b 3 0) b 4 0) b 6 0) (b + 9) 0 0) (b + 3) 8 (fun _ => -1)) (b + 4) 8 (fun _ => 0)
def dfL (I : mIt) (b j : Nat) : mIt := if j = 1 then I else if j = 2 then cpy (cpy I (b + 17) 8 (I (b + 20))) (b + 18) 8 (I (b + 21)) else dfm I b
theorem dfL_1 (I : mIt) (b : Nat) : dfL I b 1 = I := rfl
theorem dfL_3 (I : mIt) (b : Nat) : dfL I b 3 = dfm I b := rfl
theorem dfL_s (I : mIt) (b j : Nat) (h1 : 1 ≤ j) (h3 : j < 3) : cpy (cpy (dfL I b j) (mC b ((j : Int) - 1)) 8 (dfL I b j (mC b j))) (mH b ((j : Int) - 1)) 8 (dfL I b j (mH b j)) = dfL I b (j + 1) := by
  have h : j = 1 ∨ j = 2 := by omega
  rcases h with rfl | rfl
  · show cpy (cpy I (b + 17) 8 (I (b + 20))) (b + 18) 8 (I (b + 21)) = _
    rfl
  · show cpy (cpy (cpy (cpy I (b + 17) 8 (I (b + 20))) (b + 18) 8 (I (b + 21))) (b + 20) 8 (cpy (cpy I (b + 17) 8 (I (b + 20))) (b + 18) 8 (I (b + 21)) (b + 23))) (b + 21) 8 (cpy (cpy I (b + 17) 8 (I (b + 20))) (b + 18) 8 (I (b + 21)) (b + 24)) = dfm I b
    rw [cpy_ne (x := b + 23) _ _ _ (by omega), cpy_ne (x := b + 23) _ _ _ (by omega), cpy_ne (x := b + 24) _ _ _ (by omega), cpy_ne (x := b + 24) _ _ _ (by omega)]
    rfl
set_option maxRecDepth 20000 in
set_option maxHeartbeats 4000000 in
theorem Fn_X2_changeSetting (k : Nat) (I : mIt) (P : mPt) (b : Nat) (hR : isRm P b) (what value : Int) : WP (k + 1) mX2_changeSetting none (0, 0) (Rt (some (.inl (csV I b what value))) (lay0, csI I b what value, P)) 0 [(0, .inr (some b)), (1, .inl what), (2, .inl value)] [] (lay0, I, P) := by
  refine r_iload_n (d := mX2_changeSetting) (pc := 0) (i := 1) (v := what) dX2_changeSetting_0 rfl rfl ?_
  refine r_iconst (d := mX2_changeSetting) (pc := 1) (n := 0) dX2_changeSetting_1 ?_
  refine r_iconst (d := mX2_changeSetting) (pc := 2) (n := 3) dX2_changeSetting_2 ?_
  refine r_cSN3 (d := mX2_changeSetting) (pc := 3) (dj := mX5_within) dX2_changeSetting_3 mnRX2_97 staX5_within okX5_within (by decide) rfl (Nat.le_of_ble_eq_true rfl) (by decide) (by decide) (Fn_X5_within k I P what 0 3) ?_
  refine r_ifb_ne (d := mX2_changeSetting) (pc := 6) (tgt := 11) dX2_changeSetting_6 (by decide) (fun h6 => ?_) (fun h6 => ?_)
  · refine r_iload_n (d := mX2_changeSetting) (pc := 11) (i := 1) (v := what) dX2_changeSetting_11 rfl rfl ?_
    refine r_iconst (d := mX2_changeSetting) (pc := 12) (n := 2) dX2_changeSetting_12 ?_
    refine r_icmp_ne (d := mX2_changeSetting) (pc := 13) (tgt := 20) dX2_changeSetting_13 (by decide) (fun h13 => ?_) (fun h13 => ?_)
    · refine r_iconst (d := mX2_changeSetting) (pc := 20) (n := 1) dX2_changeSetting_20 ?_
      refine r_istore_n (d := mX2_changeSetting) (pc := 21) (i := 3) (lv' := [(0, .inr (some b)), (1, .inl what), (2, .inl value), (3, .inl 1)]) dX2_changeSetting_21 rfl (by decide) rfl rfl ?_
      refine r_iload_n (d := mX2_changeSetting) (pc := 22) (i := 1) (v := what) dX2_changeSetting_22 rfl rfl ?_
      refine r_iconst (d := mX2_changeSetting) (pc := 23) (n := 3) dX2_changeSetting_23 ?_
      refine r_icmp_ne (d := mX2_changeSetting) (pc := 24) (tgt := 31) dX2_changeSetting_24 (by decide) (fun h24 => ?_) (fun h24 => ?_)
      · refine r_bipush (d := mX2_changeSetting) (pc := 31) (n := 9) dX2_changeSetting_31 ?_
        refine r_istore (d := mX2_changeSetting) (pc := 33) (i := 4) (lv' := [(0, .inr (some b)), (1, .inl what), (2, .inl value), (3, .inl 1), (4, .inl 9)]) dX2_changeSetting_33 (by decide) rfl rfl ?_
        refine r_iload_n (d := mX2_changeSetting) (pc := 35) (i := 2) (v := value) dX2_changeSetting_35 rfl rfl ?_
        refine r_iload_n (d := mX2_changeSetting) (pc := 36) (i := 3) (v := 1) dX2_changeSetting_36 rfl rfl ?_
        refine r_iload (d := mX2_changeSetting) (pc := 37) (i := 4) (v := 9) dX2_changeSetting_37 rfl ?_
        refine r_cSN3 (d := mX2_changeSetting) (pc := 39) (dj := mX5_within) dX2_changeSetting_39 mnRX2_97 staX5_within okX5_within (by decide) rfl (Nat.le_of_ble_eq_true rfl) (by decide) (by decide) (Fn_X5_within k I P value 1 9) ?_
        refine r_ifb_ne (d := mX2_changeSetting) (pc := 42) (tgt := 47) dX2_changeSetting_42 (by decide) (fun h42 => ?_) (fun h42 => ?_)
        · refine r_aload_n (d := mX2_changeSetting) (pc := 47) (i := 0) (v := b) dX2_changeSetting_47 rfl rfl ?_
          refine r_getRs (d := mX2_changeSetting) (pc := 48) (a := b) (kd := 2) (j := 7) (x := b + 1) dX2_changeSetting_48 flRX2_33 hR.1.1 (by decide) (by decide) rfl hR.2.1.1 ?_
          refine r_iload_n (d := mX2_changeSetting) (pc := 51) (i := 1) (v := what) dX2_changeSetting_51 rfl rfl ?_
          refine r_ialds (d := mX2_changeSetting) (pc := 52) (a := b + 1) (x := (I (b + 1) what)) dX2_changeSetting_52 hR.1.2.1 (by omega) (by omega) (rfl) ?_
          refine r_istore (d := mX2_changeSetting) (pc := 53) (i := 5) (lv' := [(0, .inr (some b)), (1, .inl what), (2, .inl value), (3, .inl 1), (4, .inl 9), (5, .inl (I (b + 1) what))]) dX2_changeSetting_53 (by decide) rfl rfl ?_
          refine r_aload_n (d := mX2_changeSetting) (pc := 55) (i := 0) (v := b) dX2_changeSetting_55 rfl rfl ?_
          refine r_getRs (d := mX2_changeSetting) (pc := 56) (a := b) (kd := 2) (j := 7) (x := b + 1) dX2_changeSetting_56 flRX2_33 hR.1.1 (by decide) (by decide) rfl hR.2.1.1 ?_
          refine r_iload_n (d := mX2_changeSetting) (pc := 59) (i := 1) (v := what) dX2_changeSetting_59 rfl rfl ?_
          refine r_iload_n (d := mX2_changeSetting) (pc := 60) (i := 2) (v := value) dX2_changeSetting_60 rfl rfl ?_
          refine r_iasts (d := mX2_changeSetting) (pc := 61) (a := b + 1) (lay0, mUp I (b + 1) what value, P) dX2_changeSetting_61 hR.1.2.1 (by omega) (by omega) rfl ?_
          refine r_iload (d := mX2_changeSetting) (pc := 62) (i := 5) (v := (I (b + 1) what)) dX2_changeSetting_62 rfl ?_
          exact r_iret (d := mX2_changeSetting) (pc := 64) dX2_changeSetting_64 rfl (rtI (by rw [csV, if_pos (by (first | rw [if_pos h13] | rw [if_neg h13]); (first | rw [if_pos h24] | rw [if_neg h24]); omega)]) (by rw [csI, if_pos (by (first | rw [if_pos h13] | rw [if_neg h13]); (first | rw [if_pos h24] | rw [if_neg h24]); omega)])) (by decide) (by decide)
        · refine r_iconst (d := mX2_changeSetting) (pc := 45) (n := (-1)) dX2_changeSetting_45 ?_
          exact r_iret (d := mX2_changeSetting) (pc := 46) dX2_changeSetting_46 rfl (rtI (by rw [csV, if_neg (by (first | rw [if_pos h13] | rw [if_neg h13]); (first | rw [if_pos h24] | rw [if_neg h24]); omega)]) (by rw [csI, if_neg (by (first | rw [if_pos h13] | rw [if_neg h13]); (first | rw [if_pos h24] | rw [if_neg h24]); omega)])) (by decide) (by decide)
      · refine r_iconst (d := mX2_changeSetting) (pc := 27) (n := 3) dX2_changeSetting_27 ?_
        refine r_goto (d := mX2_changeSetting) (pc := 28) (tgt := 33) dX2_changeSetting_28 (by decide) ?_
        refine r_istore (d := mX2_changeSetting) (pc := 33) (i := 4) (lv' := [(0, .inr (some b)), (1, .inl what), (2, .inl value), (3, .inl 1), (4, .inl 3)]) dX2_changeSetting_33 (by decide) rfl rfl ?_
        refine r_iload_n (d := mX2_changeSetting) (pc := 35) (i := 2) (v := value) dX2_changeSetting_35 rfl rfl ?_
        refine r_iload_n (d := mX2_changeSetting) (pc := 36) (i := 3) (v := 1) dX2_changeSetting_36 rfl rfl ?_
        refine r_iload (d := mX2_changeSetting) (pc := 37) (i := 4) (v := 3) dX2_changeSetting_37 rfl ?_
        refine r_cSN3 (d := mX2_changeSetting) (pc := 39) (dj := mX5_within) dX2_changeSetting_39 mnRX2_97 staX5_within okX5_within (by decide) rfl (Nat.le_of_ble_eq_true rfl) (by decide) (by decide) (Fn_X5_within k I P value 1 3) ?_
        refine r_ifb_ne (d := mX2_changeSetting) (pc := 42) (tgt := 47) dX2_changeSetting_42 (by decide) (fun h42 => ?_) (fun h42 => ?_)
        · refine r_aload_n (d := mX2_changeSetting) (pc := 47) (i := 0) (v := b) dX2_changeSetting_47 rfl rfl ?_
          refine r_getRs (d := mX2_changeSetting) (pc := 48) (a := b) (kd := 2) (j := 7) (x := b + 1) dX2_changeSetting_48 flRX2_33 hR.1.1 (by decide) (by decide) rfl hR.2.1.1 ?_
          refine r_iload_n (d := mX2_changeSetting) (pc := 51) (i := 1) (v := what) dX2_changeSetting_51 rfl rfl ?_
          refine r_ialds (d := mX2_changeSetting) (pc := 52) (a := b + 1) (x := (I (b + 1) what)) dX2_changeSetting_52 hR.1.2.1 (by omega) (by omega) (rfl) ?_
          refine r_istore (d := mX2_changeSetting) (pc := 53) (i := 5) (lv' := [(0, .inr (some b)), (1, .inl what), (2, .inl value), (3, .inl 1), (4, .inl 3), (5, .inl (I (b + 1) what))]) dX2_changeSetting_53 (by decide) rfl rfl ?_
          refine r_aload_n (d := mX2_changeSetting) (pc := 55) (i := 0) (v := b) dX2_changeSetting_55 rfl rfl ?_
          refine r_getRs (d := mX2_changeSetting) (pc := 56) (a := b) (kd := 2) (j := 7) (x := b + 1) dX2_changeSetting_56 flRX2_33 hR.1.1 (by decide) (by decide) rfl hR.2.1.1 ?_
          refine r_iload_n (d := mX2_changeSetting) (pc := 59) (i := 1) (v := what) dX2_changeSetting_59 rfl rfl ?_
          refine r_iload_n (d := mX2_changeSetting) (pc := 60) (i := 2) (v := value) dX2_changeSetting_60 rfl rfl ?_
          refine r_iasts (d := mX2_changeSetting) (pc := 61) (a := b + 1) (lay0, mUp I (b + 1) what value, P) dX2_changeSetting_61 hR.1.2.1 (by omega) (by omega) rfl ?_
          refine r_iload (d := mX2_changeSetting) (pc := 62) (i := 5) (v := (I (b + 1) what)) dX2_changeSetting_62 rfl ?_
          exact r_iret (d := mX2_changeSetting) (pc := 64) dX2_changeSetting_64 rfl (rtI (by rw [csV, if_pos (by (first | rw [if_pos h13] | rw [if_neg h13]); (first | rw [if_pos h24] | rw [if_neg h24]); omega)]) (by rw [csI, if_pos (by (first | rw [if_pos h13] | rw [if_neg h13]); (first | rw [if_pos h24] | rw [if_neg h24]); omega)])) (by decide) (by decide)
        · refine r_iconst (d := mX2_changeSetting) (pc := 45) (n := (-1)) dX2_changeSetting_45 ?_
          exact r_iret (d := mX2_changeSetting) (pc := 46) dX2_changeSetting_46 rfl (rtI (by rw [csV, if_neg (by (first | rw [if_pos h13] | rw [if_neg h13]); (first | rw [if_pos h24] | rw [if_neg h24]); omega)]) (by rw [csI, if_neg (by (first | rw [if_pos h13] | rw [if_neg h13]); (first | rw [if_pos h24] | rw [if_neg h24]); omega)])) (by decide) (by decide)
    · refine r_iconst (d := mX2_changeSetting) (pc := 16) (n := 0) dX2_changeSetting_16 ?_
      refine r_goto (d := mX2_changeSetting) (pc := 17) (tgt := 21) dX2_changeSetting_17 (by decide) ?_
      refine r_istore_n (d := mX2_changeSetting) (pc := 21) (i := 3) (lv' := [(0, .inr (some b)), (1, .inl what), (2, .inl value), (3, .inl 0)]) dX2_changeSetting_21 rfl (by decide) rfl rfl ?_
      refine r_iload_n (d := mX2_changeSetting) (pc := 22) (i := 1) (v := what) dX2_changeSetting_22 rfl rfl ?_
      refine r_iconst (d := mX2_changeSetting) (pc := 23) (n := 3) dX2_changeSetting_23 ?_
      refine r_icmp_ne (d := mX2_changeSetting) (pc := 24) (tgt := 31) dX2_changeSetting_24 (by decide) (fun h24 => ?_) (fun h24 => ?_)
      · refine r_bipush (d := mX2_changeSetting) (pc := 31) (n := 9) dX2_changeSetting_31 ?_
        refine r_istore (d := mX2_changeSetting) (pc := 33) (i := 4) (lv' := [(0, .inr (some b)), (1, .inl what), (2, .inl value), (3, .inl 0), (4, .inl 9)]) dX2_changeSetting_33 (by decide) rfl rfl ?_
        refine r_iload_n (d := mX2_changeSetting) (pc := 35) (i := 2) (v := value) dX2_changeSetting_35 rfl rfl ?_
        refine r_iload_n (d := mX2_changeSetting) (pc := 36) (i := 3) (v := 0) dX2_changeSetting_36 rfl rfl ?_
        refine r_iload (d := mX2_changeSetting) (pc := 37) (i := 4) (v := 9) dX2_changeSetting_37 rfl ?_
        refine r_cSN3 (d := mX2_changeSetting) (pc := 39) (dj := mX5_within) dX2_changeSetting_39 mnRX2_97 staX5_within okX5_within (by decide) rfl (Nat.le_of_ble_eq_true rfl) (by decide) (by decide) (Fn_X5_within k I P value 0 9) ?_
        refine r_ifb_ne (d := mX2_changeSetting) (pc := 42) (tgt := 47) dX2_changeSetting_42 (by decide) (fun h42 => ?_) (fun h42 => ?_)
        · refine r_aload_n (d := mX2_changeSetting) (pc := 47) (i := 0) (v := b) dX2_changeSetting_47 rfl rfl ?_
          refine r_getRs (d := mX2_changeSetting) (pc := 48) (a := b) (kd := 2) (j := 7) (x := b + 1) dX2_changeSetting_48 flRX2_33 hR.1.1 (by decide) (by decide) rfl hR.2.1.1 ?_
          refine r_iload_n (d := mX2_changeSetting) (pc := 51) (i := 1) (v := what) dX2_changeSetting_51 rfl rfl ?_
          refine r_ialds (d := mX2_changeSetting) (pc := 52) (a := b + 1) (x := (I (b + 1) what)) dX2_changeSetting_52 hR.1.2.1 (by omega) (by omega) (rfl) ?_
          refine r_istore (d := mX2_changeSetting) (pc := 53) (i := 5) (lv' := [(0, .inr (some b)), (1, .inl what), (2, .inl value), (3, .inl 0), (4, .inl 9), (5, .inl (I (b + 1) what))]) dX2_changeSetting_53 (by decide) rfl rfl ?_
          refine r_aload_n (d := mX2_changeSetting) (pc := 55) (i := 0) (v := b) dX2_changeSetting_55 rfl rfl ?_
          refine r_getRs (d := mX2_changeSetting) (pc := 56) (a := b) (kd := 2) (j := 7) (x := b + 1) dX2_changeSetting_56 flRX2_33 hR.1.1 (by decide) (by decide) rfl hR.2.1.1 ?_
          refine r_iload_n (d := mX2_changeSetting) (pc := 59) (i := 1) (v := what) dX2_changeSetting_59 rfl rfl ?_
          refine r_iload_n (d := mX2_changeSetting) (pc := 60) (i := 2) (v := value) dX2_changeSetting_60 rfl rfl ?_
          refine r_iasts (d := mX2_changeSetting) (pc := 61) (a := b + 1) (lay0, mUp I (b + 1) what value, P) dX2_changeSetting_61 hR.1.2.1 (by omega) (by omega) rfl ?_
          refine r_iload (d := mX2_changeSetting) (pc := 62) (i := 5) (v := (I (b + 1) what)) dX2_changeSetting_62 rfl ?_
          exact r_iret (d := mX2_changeSetting) (pc := 64) dX2_changeSetting_64 rfl (rtI (by rw [csV, if_pos (by (first | rw [if_pos h13] | rw [if_neg h13]); (first | rw [if_pos h24] | rw [if_neg h24]); omega)]) (by rw [csI, if_pos (by (first | rw [if_pos h13] | rw [if_neg h13]); (first | rw [if_pos h24] | rw [if_neg h24]); omega)])) (by decide) (by decide)
        · refine r_iconst (d := mX2_changeSetting) (pc := 45) (n := (-1)) dX2_changeSetting_45 ?_
          exact r_iret (d := mX2_changeSetting) (pc := 46) dX2_changeSetting_46 rfl (rtI (by rw [csV, if_neg (by (first | rw [if_pos h13] | rw [if_neg h13]); (first | rw [if_pos h24] | rw [if_neg h24]); omega)]) (by rw [csI, if_neg (by (first | rw [if_pos h13] | rw [if_neg h13]); (first | rw [if_pos h24] | rw [if_neg h24]); omega)])) (by decide) (by decide)
      · refine r_iconst (d := mX2_changeSetting) (pc := 27) (n := 3) dX2_changeSetting_27 ?_
        refine r_goto (d := mX2_changeSetting) (pc := 28) (tgt := 33) dX2_changeSetting_28 (by decide) ?_
        refine r_istore (d := mX2_changeSetting) (pc := 33) (i := 4) (lv' := [(0, .inr (some b)), (1, .inl what), (2, .inl value), (3, .inl 0), (4, .inl 3)]) dX2_changeSetting_33 (by decide) rfl rfl ?_
        refine r_iload_n (d := mX2_changeSetting) (pc := 35) (i := 2) (v := value) dX2_changeSetting_35 rfl rfl ?_
        refine r_iload_n (d := mX2_changeSetting) (pc := 36) (i := 3) (v := 0) dX2_changeSetting_36 rfl rfl ?_
        refine r_iload (d := mX2_changeSetting) (pc := 37) (i := 4) (v := 3) dX2_changeSetting_37 rfl ?_
        refine r_cSN3 (d := mX2_changeSetting) (pc := 39) (dj := mX5_within) dX2_changeSetting_39 mnRX2_97 staX5_within okX5_within (by decide) rfl (Nat.le_of_ble_eq_true rfl) (by decide) (by decide) (Fn_X5_within k I P value 0 3) ?_
        refine r_ifb_ne (d := mX2_changeSetting) (pc := 42) (tgt := 47) dX2_changeSetting_42 (by decide) (fun h42 => ?_) (fun h42 => ?_)
        · refine r_aload_n (d := mX2_changeSetting) (pc := 47) (i := 0) (v := b) dX2_changeSetting_47 rfl rfl ?_
          refine r_getRs (d := mX2_changeSetting) (pc := 48) (a := b) (kd := 2) (j := 7) (x := b + 1) dX2_changeSetting_48 flRX2_33 hR.1.1 (by decide) (by decide) rfl hR.2.1.1 ?_
          refine r_iload_n (d := mX2_changeSetting) (pc := 51) (i := 1) (v := what) dX2_changeSetting_51 rfl rfl ?_
          refine r_ialds (d := mX2_changeSetting) (pc := 52) (a := b + 1) (x := (I (b + 1) what)) dX2_changeSetting_52 hR.1.2.1 (by omega) (by omega) (rfl) ?_
          refine r_istore (d := mX2_changeSetting) (pc := 53) (i := 5) (lv' := [(0, .inr (some b)), (1, .inl what), (2, .inl value), (3, .inl 0), (4, .inl 3), (5, .inl (I (b + 1) what))]) dX2_changeSetting_53 (by decide) rfl rfl ?_
          refine r_aload_n (d := mX2_changeSetting) (pc := 55) (i := 0) (v := b) dX2_changeSetting_55 rfl rfl ?_
          refine r_getRs (d := mX2_changeSetting) (pc := 56) (a := b) (kd := 2) (j := 7) (x := b + 1) dX2_changeSetting_56 flRX2_33 hR.1.1 (by decide) (by decide) rfl hR.2.1.1 ?_
          refine r_iload_n (d := mX2_changeSetting) (pc := 59) (i := 1) (v := what) dX2_changeSetting_59 rfl rfl ?_
          refine r_iload_n (d := mX2_changeSetting) (pc := 60) (i := 2) (v := value) dX2_changeSetting_60 rfl rfl ?_
          refine r_iasts (d := mX2_changeSetting) (pc := 61) (a := b + 1) (lay0, mUp I (b + 1) what value, P) dX2_changeSetting_61 hR.1.2.1 (by omega) (by omega) rfl ?_
          refine r_iload (d := mX2_changeSetting) (pc := 62) (i := 5) (v := (I (b + 1) what)) dX2_changeSetting_62 rfl ?_
          exact r_iret (d := mX2_changeSetting) (pc := 64) dX2_changeSetting_64 rfl (rtI (by rw [csV, if_pos (by (first | rw [if_pos h13] | rw [if_neg h13]); (first | rw [if_pos h24] | rw [if_neg h24]); omega)]) (by rw [csI, if_pos (by (first | rw [if_pos h13] | rw [if_neg h13]); (first | rw [if_pos h24] | rw [if_neg h24]); omega)])) (by decide) (by decide)
        · refine r_iconst (d := mX2_changeSetting) (pc := 45) (n := (-1)) dX2_changeSetting_45 ?_
          exact r_iret (d := mX2_changeSetting) (pc := 46) dX2_changeSetting_46 rfl (rtI (by rw [csV, if_neg (by (first | rw [if_pos h13] | rw [if_neg h13]); (first | rw [if_pos h24] | rw [if_neg h24]); omega)]) (by rw [csI, if_neg (by (first | rw [if_pos h13] | rw [if_neg h13]); (first | rw [if_pos h24] | rw [if_neg h24]); omega)])) (by decide) (by decide)
  · refine r_iconst (d := mX2_changeSetting) (pc := 9) (n := (-1)) dX2_changeSetting_9 ?_
    exact r_iret (d := mX2_changeSetting) (pc := 10) dX2_changeSetting_10 rfl (rtI (by rw [csV, if_neg (fun q => h6 q.1)]) (by rw [csI, if_neg (fun q => h6 q.1)])) (by decide) (by decide)
set_option maxRecDepth 20000 in
set_option maxHeartbeats 4000000 in
theorem Fn_X2_addMark (k : Nat) (I : mIt) (P : mPt) (b : Nat) (hR : isRm P b) (mc : Nat) (hm : I b 6 = mc) (hm3 : mc ≤ 3) : WP (k + 1) mX2_addMark none (0, 0) (Rt (some (.inl (if 3 ≤ mc then -3 else (mc : Int)))) (lay0, amI I b mc, P)) 0 [(0, .inr (some b))] [] (lay0, I, P) := by
  refine r_aload_n (d := mX2_addMark) (pc := 0) (i := 0) (v := b) dX2_addMark_0 rfl rfl ?_
  refine r_getIs (d := mX2_addMark) (pc := 1) (a := b) (kd := 2) (j := 6) (x := (mc : Int)) dX2_addMark_1 flRX2_30 hR.1.1 (by decide) (by decide) rfl (hm) ?_
  refine r_if_lt (d := mX2_addMark) (pc := 4) (tgt := 15) dX2_addMark_4 (by decide) (fun h4 => ?_) (fun h4 => ?_)
  · refine r_bipush (d := mX2_addMark) (pc := 15) (n := (-3)) dX2_addMark_15 ?_
    exact r_iret (d := mX2_addMark) (pc := 17) dX2_addMark_17 rfl (rtI (by first | rw [if_pos (by omega)] | (rw [if_neg (by omega)]; omega)) (by first | rw [amI, if_pos (by omega)] | (rw [amI, if_neg (by omega)]; rfl))) (by decide) (by decide)
  · refine r_aload_n (d := mX2_addMark) (pc := 7) (i := 0) (v := b) dX2_addMark_7 rfl rfl ?_
    refine r_getIs (d := mX2_addMark) (pc := 8) (a := b) (kd := 2) (j := 6) (x := (mc : Int)) dX2_addMark_8 flRX2_30 hR.1.1 (by decide) (by decide) rfl (hm) ?_
    refine r_iconst (d := mX2_addMark) (pc := 11) (n := 3) dX2_addMark_11 ?_
    refine r_icmp_lt (d := mX2_addMark) (pc := 12) (tgt := 18) dX2_addMark_12 (by decide) (fun h12 => ?_) (fun h12 => ?_)
    · refine r_aload_n (d := mX2_addMark) (pc := 18) (i := 0) (v := b) dX2_addMark_18 rfl rfl ?_
      refine r_getRs (d := mX2_addMark) (pc := 19) (a := b) (kd := 2) (j := 11) (x := b + 15) dX2_addMark_19 flRX2_58 hR.1.1 (by decide) (by decide) rfl hR.2.1.2.2.2.2 ?_
      refine r_aload_n (d := mX2_addMark) (pc := 22) (i := 0) (v := b) dX2_addMark_22 rfl rfl ?_
      refine r_getIs (d := mX2_addMark) (pc := 23) (a := b) (kd := 2) (j := 6) (x := (mc : Int)) dX2_addMark_23 flRX2_30 hR.1.1 (by decide) (by decide) rfl (hm) ?_
      refine r_aald12s (d := mX2_addMark) (pc := 26) (a := b + 15) (x := mA b (mc : Int)) dX2_addMark_26 hR.1.2.2 (by omega) (by omega) ((hR.mark (by omega) (by omega)).1) ?_
      refine r_aload_n (d := mX2_addMark) (pc := 27) (i := 0) (v := b) dX2_addMark_27 rfl rfl ?_
      refine r_getRs (d := mX2_addMark) (pc := 28) (a := b) (kd := 2) (j := 8) (x := b + 2) dX2_addMark_28 flRX2_40 hR.1.1 (by decide) (by decide) rfl hR.2.1.2.1 ?_
      refine r_cV1 (d := mX2_addMark) (pc := 31) (dj := mX0_become) (a := mA b (mc : Int)) (kd := 0) dX2_addMark_31 mlRX2_62 inX0_become selX0_become rfl (hR.mark (i := (mc : Int)) (by omega) (by omega)).2.1 (by decide) okX0_become (by decide) rfl (Nat.le_of_ble_eq_true rfl) (by decide) (by decide) (Fn_X0_become k I P (mA b (mc : Int)) (mC b (mc : Int)) (mH b (mc : Int)) (hR.mark (i := (mc : Int)) (by omega) (by omega)).2 (b + 2) (b + 3) (b + 4) hR.2.2.1 (by (try simp only [mC, mH]); omega) (by (try simp only [mC, mH]); omega) (by (try simp only [mC, mH]); omega) (by (try simp only [mC, mH]); omega) (by (try simp only [mC, mH]); omega)) ?_
      refine r_aload_n (d := mX2_addMark) (pc := 34) (i := 0) (v := b) dX2_addMark_34 rfl rfl ?_
      refine r_dup (d := mX2_addMark) (pc := 35) dX2_addMark_35 ?_
      refine r_getIs (d := mX2_addMark) (pc := 36) (a := b) (kd := 2) (j := 6) (x := (mc : Int)) dX2_addMark_36 flRX2_30 hR.1.1 (by decide) (by decide) rfl (by show (cpy (cpy I (mC b (mc : Int)) 8 (I (b + 3))) (mH b (mc : Int)) 8 (I (b + 4))) b 6 = _; rw [cpy_ne _ _ _ (by simp only [mH]; omega), cpy_ne _ _ _ (by simp only [mC]; omega)]; exact hm) ?_
      refine r_iconst (d := mX2_addMark) (pc := 39) (n := 1) dX2_addMark_39 ?_
      refine r_iadd (d := mX2_addMark) (pc := 40) dX2_addMark_40 ?_
      refine r_putIs (d := mX2_addMark) (pc := 41) (a := b) (kd := 2) (j := 6) (lay0, mUp (cpy (cpy I (mC b (mc : Int)) 8 (I (b + 3))) (mH b (mc : Int)) 8 (I (b + 4))) b 6 ((mc : Int) + 1), P) dX2_addMark_41 flRX2_30 hR.1.1 (by decide) (by decide) rfl rfl (Or.inl rfl) rfl ?_
      refine r_aload_n (d := mX2_addMark) (pc := 44) (i := 0) (v := b) dX2_addMark_44 rfl rfl ?_
      refine r_getIs (d := mX2_addMark) (pc := 45) (a := b) (kd := 2) (j := 6) (x := ((mc : Int) + 1)) dX2_addMark_45 flRX2_30 hR.1.1 (by decide) (by decide) rfl (by simp [mUp, fset]) ?_
      refine r_iconst (d := mX2_addMark) (pc := 48) (n := 1) dX2_addMark_48 ?_
      refine r_isub (d := mX2_addMark) (pc := 49) dX2_addMark_49 ?_
      exact r_iret (d := mX2_addMark) (pc := 50) dX2_addMark_50 rfl (rtI (by first | rw [if_pos (by omega)] | (rw [if_neg (by omega)]; omega)) (by first | rw [amI, if_pos (by omega)] | (rw [amI, if_neg (by omega)]; rfl))) (by decide) (by decide)
    · refine r_bipush (d := mX2_addMark) (pc := 15) (n := (-3)) dX2_addMark_15 ?_
      exact r_iret (d := mX2_addMark) (pc := 17) dX2_addMark_17 rfl (rtI (by first | rw [if_pos (by omega)] | (rw [if_neg (by omega)]; omega)) (by first | rw [amI, if_pos (by omega)] | (rw [amI, if_neg (by omega)]; rfl))) (by decide) (by decide)
set_option maxRecDepth 20000 in
set_option maxHeartbeats 4000000 in
theorem Fn_X2_dropFirstMark (k : Nat) (I : mIt) (P : mPt) (b : Nat) (hR : isRm P b) (n : Nat) (hn : I (b + 9) 0 = n) (hn6 : n ≤ 6) (mc : Nat) (hm : I b 6 = mc) (hm3 : mc ≤ 3) : WP (k + 1) mX2_dropFirstMark none (0, 0) (Rt (some (.inl (if mc = 0 then -2 else ((mc - 1 : Nat) : Int)))) (lay0, dfI I b n mc, P)) 0 [(0, .inr (some b))] [] (lay0, I, P) := by
  refine r_aload_n (d := mX2_dropFirstMark) (pc := 0) (i := 0) (v := b) dX2_dropFirstMark_0 rfl rfl ?_
  refine r_getIs (d := mX2_dropFirstMark) (pc := 1) (a := b) (kd := 2) (j := 6) (x := (mc : Int)) dX2_dropFirstMark_1 flRX2_30 hR.1.1 (by decide) (by decide) rfl (hm) ?_
  refine r_if_gt (d := mX2_dropFirstMark) (pc := 4) (tgt := 10) dX2_dropFirstMark_4 (by decide) (fun h4 => ?_) (fun h4 => ?_)
  · refine r_iconst (d := mX2_dropFirstMark) (pc := 10) (n := 1) dX2_dropFirstMark_10 ?_
    refine r_istore_n (d := mX2_dropFirstMark) (pc := 11) (i := 1) (lv' := [(0, .inr (some b)), (1, .inl 1)]) dX2_dropFirstMark_11 rfl (by decide) rfl rfl ?_
    have L12 : ∀ j : Nat, j ≤ 3 → 1 ≤ j → WP (k + 1) mX2_dropFirstMark none (0, 0) (Rt (some (.inl (if mc = 0 then -2 else ((mc - 1 : Nat) : Int)))) (lay0, dfI I b n mc, P)) 12 [(0, .inr (some b)), (1, .inl (j : Int))] [] (lay0, dfL I b j, P) := by
      refine loopN (3) _ (fun j ih12 hj12 hj1 => ?_)
      refine r_iload_n (d := mX2_dropFirstMark) (pc := 12) (i := 1) (v := (j : Int)) dX2_dropFirstMark_12 rfl rfl ?_
      refine r_iconst (d := mX2_dropFirstMark) (pc := 13) (n := 3) dX2_dropFirstMark_13 ?_
      refine r_icmp_ge (d := mX2_dropFirstMark) (pc := 14) (tgt := 40) dX2_dropFirstMark_14 (by decide) (fun h14 => ?_) (fun h14 => ?_)
      · refine r_aload_n (d := mX2_dropFirstMark) (pc := 40) (i := 0) (v := b) dX2_dropFirstMark_40 rfl rfl ?_
        refine r_dup (d := mX2_dropFirstMark) (pc := 41) dX2_dropFirstMark_41 ?_
        refine r_getIs (d := mX2_dropFirstMark) (pc := 42) (a := b) (kd := 2) (j := 6) (x := (mc : Int)) dX2_dropFirstMark_42 flRX2_30 hR.1.1 (by decide) (by decide) rfl (by rw [show j = 3 by omega, dfL_3]; simp [dfm, mUp, cpy, fset, hm]) ?_
        refine r_iconst (d := mX2_dropFirstMark) (pc := 45) (n := 1) dX2_dropFirstMark_45 ?_
        refine r_isub (d := mX2_dropFirstMark) (pc := 46) dX2_dropFirstMark_46 ?_
        refine r_putIs (d := mX2_dropFirstMark) (pc := 47) (a := b) (kd := 2) (j := 6) (lay0, mUp (dfL I b j) b 6 ((mc : Int) - 1), P) dX2_dropFirstMark_47 flRX2_30 hR.1.1 (by decide) (by decide) rfl rfl (Or.inl rfl) rfl ?_
        refine r_aload_n (d := mX2_dropFirstMark) (pc := 50) (i := 0) (v := b) dX2_dropFirstMark_50 rfl rfl ?_
        refine r_getRs (d := mX2_dropFirstMark) (pc := 51) (a := b) (kd := 2) (j := 10) (x := b + 9) dX2_dropFirstMark_51 flRX2_54 hR.1.1 (by decide) (by decide) rfl hR.2.1.2.2.2.1 ?_
        refine r_cV0 (d := mX2_dropFirstMark) (pc := 54) (dj := mX1_forgetFirstMark) (a := b + 9) (kd := 1) dX2_dropFirstMark_54 mlRX2_141 inX1_forgetFirstMark selX1_forgetFirstMark rfl hR.2.2.2.2.1.1 (by decide) okX1_forgetFirstMark (by decide) rfl (Nat.le_of_ble_eq_true rfl) (by decide) (by decide) (Fn_X1_forgetFirstMark k (mUp (dfL I b j) b 6 ((mc : Int) - 1)) P (b + 9) (b + 10) (b + 11) (b + 12) (b + 13) (b + 14) hR.2.2.2.2.1 n (by rw [show j = 3 by omega, dfL_3]; simp [dfm, mUp, cpy, fset, hn]) hn6 (by omega)) ?_
        refine r_aload_n (d := mX2_dropFirstMark) (pc := 57) (i := 0) (v := b) dX2_dropFirstMark_57 rfl rfl ?_
        refine r_getIs (d := mX2_dropFirstMark) (pc := 58) (a := b) (kd := 2) (j := 6) (x := ((mc : Int) - 1)) dX2_dropFirstMark_58 flRX2_30 hR.1.1 (by decide) (by decide) rfl (by simp [fgm, mUp, cpy, fset]) ?_
        exact r_iret (d := mX2_dropFirstMark) (pc := 61) dX2_dropFirstMark_61 rfl (rtI (by first | rw [if_pos (by omega)] | (rw [if_neg (by omega)]; omega)) (by first | rw [dfI, if_pos (by omega)] | (rw [dfI, if_neg (by omega), show j = 3 by omega, dfL_3, show ((mc - 1 : Nat) : Int) = (mc : Int) - 1 by omega]; rfl))) (by decide) (by decide)
      · refine r_aload_n (d := mX2_dropFirstMark) (pc := 17) (i := 0) (v := b) dX2_dropFirstMark_17 rfl rfl ?_
        refine r_getRs (d := mX2_dropFirstMark) (pc := 18) (a := b) (kd := 2) (j := 11) (x := b + 15) dX2_dropFirstMark_18 flRX2_58 hR.1.1 (by decide) (by decide) rfl hR.2.1.2.2.2.2 ?_
        refine r_iload_n (d := mX2_dropFirstMark) (pc := 21) (i := 1) (v := (j : Int)) dX2_dropFirstMark_21 rfl rfl ?_
        refine r_iconst (d := mX2_dropFirstMark) (pc := 22) (n := 1) dX2_dropFirstMark_22 ?_
        refine r_isub (d := mX2_dropFirstMark) (pc := 23) dX2_dropFirstMark_23 ?_
        refine r_aald12s (d := mX2_dropFirstMark) (pc := 24) (a := b + 15) (x := mA b ((j : Int) - 1)) dX2_dropFirstMark_24 hR.1.2.2 (by omega) (by omega) ((hR.mark (by omega) (by omega)).1) ?_
        refine r_aload_n (d := mX2_dropFirstMark) (pc := 25) (i := 0) (v := b) dX2_dropFirstMark_25 rfl rfl ?_
        refine r_getRs (d := mX2_dropFirstMark) (pc := 26) (a := b) (kd := 2) (j := 11) (x := b + 15) dX2_dropFirstMark_26 flRX2_58 hR.1.1 (by decide) (by decide) rfl hR.2.1.2.2.2.2 ?_
        refine r_iload_n (d := mX2_dropFirstMark) (pc := 29) (i := 1) (v := (j : Int)) dX2_dropFirstMark_29 rfl rfl ?_
        refine r_aald12s (d := mX2_dropFirstMark) (pc := 30) (a := b + 15) (x := mA b (j : Int)) dX2_dropFirstMark_30 hR.1.2.2 (by omega) (by omega) ((hR.mark (by omega) (by omega)).1) ?_
        refine r_cV1 (d := mX2_dropFirstMark) (pc := 31) (dj := mX0_become) (a := mA b ((j : Int) - 1)) (kd := 0) dX2_dropFirstMark_31 mlRX2_62 inX0_become selX0_become rfl (hR.mark (i := ((j : Int) - 1)) (by omega) (by omega)).2.1 (by decide) okX0_become (by decide) rfl (Nat.le_of_ble_eq_true rfl) (by decide) (by decide) (Fn_X0_become k (dfL I b j) P (mA b ((j : Int) - 1)) (mC b ((j : Int) - 1)) (mH b ((j : Int) - 1)) (hR.mark (i := ((j : Int) - 1)) (by omega) (by omega)).2 (mA b (j : Int)) (mC b (j : Int)) (mH b (j : Int)) (hR.mark (i := (j : Int)) (by omega) (by omega)).2 (by (try simp only [mC, mH]); omega) (by (try simp only [mC, mH]); omega) (by (try simp only [mC, mH]); omega) (by (try simp only [mC, mH]); omega) (by (try simp only [mC, mH]); omega)) ?_
        refine r_iinc (d := mX2_dropFirstMark) (pc := 34) (i := 1) (v := (j : Int)) (y := ((j + 1 : Nat) : Int)) (lv' := [(0, .inr (some b)), (1, .inl ((j + 1 : Nat) : Int))]) dX2_dropFirstMark_34 rfl (by decide) rfl (by omega) rfl ?_
        refine r_goto (d := mX2_dropFirstMark) (pc := 37) (tgt := 12) dX2_dropFirstMark_37 (by decide) ?_
        exact wpE (by simp) rfl (by refine memE ?_; rw [dfL_s I b j hj1 (by omega)]) (ih12 (by omega) (by omega) (by omega))
    exact wpE (by simp) rfl (by rw [dfL_1]) (L12 1 (by omega) (by omega))
  · refine r_bipush (d := mX2_dropFirstMark) (pc := 7) (n := (-2)) dX2_dropFirstMark_7 ?_
    exact r_iret (d := mX2_dropFirstMark) (pc := 9) dX2_dropFirstMark_9 rfl (rtI (by first | rw [if_pos (by omega)] | (rw [if_neg (by omega)]; omega)) (by first | rw [dfI, if_pos (by omega)] | (rw [dfI, if_neg (by omega), show j = 3 by omega, dfL_3, show ((mc - 1 : Nat) : Int) = (mc : Int) - 1 by omega]; rfl))) (by decide) (by decide)
set_option maxRecDepth 20000 in
set_option maxHeartbeats 4000000 in
theorem Fn_X2_goBack (k : Nat) (I : mIt) (P : mPt) (b : Nat) (hR : isRm P b) (n : Nat) (hn : I (b + 9) 0 = n) (hn6 : n ≤ 6) (mc : Nat) (hm : I b 6 = mc) (hm3 : mc ≤ 3) (m : Int) : WP (k + 1) mX2_goBack none (0, 0) (Rt (some (.inl (gbV I b n mc m))) (lay0, gbI I b n mc m, P)) 0 [(0, .inr (some b)), (1, .inl m)] [] (lay0, I, P) := by
  refine r_aload_n (d := mX2_goBack) (pc := 0) (i := 0) (v := b) dX2_goBack_0 rfl rfl ?_
  refine r_iload_n (d := mX2_goBack) (pc := 1) (i := 1) (v := m) dX2_goBack_1 rfl rfl ?_
  refine r_cV1 (d := mX2_goBack) (pc := 2) (dj := mX2_isMark) (a := b) (kd := 2) dX2_goBack_2 mlRX2_144 inX2_isMark selX2_isMark rfl hR.1.1 (by decide) okX2_isMark (by decide) rfl (Nat.le_of_ble_eq_true rfl) (by decide) (by decide) (Fn_X2_isMark k I P b hR m) ?_
  refine r_ifb_ne (d := mX2_goBack) (pc := 5) (tgt := 10) dX2_goBack_5 (by decide) (fun h5 => ?_) (fun h5 => ?_)
  · refine r_aload_n (d := mX2_goBack) (pc := 10) (i := 0) (v := b) dX2_goBack_10 rfl rfl ?_
    refine r_getRs (d := mX2_goBack) (pc := 11) (a := b) (kd := 2) (j := 8) (x := b + 2) dX2_goBack_11 flRX2_40 hR.1.1 (by decide) (by decide) rfl hR.2.1.2.1 ?_
    refine r_aload_n (d := mX2_goBack) (pc := 14) (i := 0) (v := b) dX2_goBack_14 rfl rfl ?_
    refine r_getRs (d := mX2_goBack) (pc := 15) (a := b) (kd := 2) (j := 11) (x := b + 15) dX2_goBack_15 flRX2_58 hR.1.1 (by decide) (by decide) rfl hR.2.1.2.2.2.2 ?_
    refine r_iload_n (d := mX2_goBack) (pc := 18) (i := 1) (v := m) dX2_goBack_18 rfl rfl ?_
    refine r_aald12s (d := mX2_goBack) (pc := 19) (a := b + 15) (x := mA b m) dX2_goBack_19 hR.1.2.2 (by omega) (by omega) ((hR.mark (by omega) (by omega)).1) ?_
    refine r_cV1 (d := mX2_goBack) (pc := 20) (dj := mX0_become) (a := b + 2) (kd := 0) dX2_goBack_20 mlRX2_62 inX0_become selX0_become rfl hR.2.2.1.1 (by decide) okX0_become (by decide) rfl (Nat.le_of_ble_eq_true rfl) (by decide) (by decide) (Fn_X0_become k I P (b + 2) (b + 3) (b + 4) hR.2.2.1 (mA b m) (mC b m) (mH b m) (hR.mark (i := m) (by omega) (by omega)).2 (by (try simp only [mC, mH]); omega) (by (try simp only [mC, mH]); omega) (by (try simp only [mC, mH]); omega) (by (try simp only [mC, mH]); omega) (by (try simp only [mC, mH]); omega)) ?_
    refine r_aload_n (d := mX2_goBack) (pc := 23) (i := 0) (v := b) dX2_goBack_23 rfl rfl ?_
    refine r_iload_n (d := mX2_goBack) (pc := 24) (i := 1) (v := m) dX2_goBack_24 rfl rfl ?_
    refine r_putIs (d := mX2_goBack) (pc := 25) (a := b) (kd := 2) (j := 6) (lay0, mUp (cpy (cpy I (b + 3) 8 (I (mC b m))) (b + 4) 8 (I (mH b m))) b 6 m, P) dX2_goBack_25 flRX2_30 hR.1.1 (by decide) (by decide) rfl rfl (Or.inl rfl) rfl ?_
    refine r_aload_n (d := mX2_goBack) (pc := 28) (i := 0) (v := b) dX2_goBack_28 rfl rfl ?_
    refine r_getRs (d := mX2_goBack) (pc := 29) (a := b) (kd := 2) (j := 10) (x := b + 9) dX2_goBack_29 flRX2_54 hR.1.1 (by decide) (by decide) rfl hR.2.1.2.2.2.1 ?_
    refine r_iload_n (d := mX2_goBack) (pc := 32) (i := 1) (v := m) dX2_goBack_32 rfl rfl ?_
    refine r_cV1 (d := mX2_goBack) (pc := 33) (dj := mX1_dropGivenAfter) (a := b + 9) (kd := 1) dX2_goBack_33 mlRX2_147 inX1_dropGivenAfter selX1_dropGivenAfter rfl hR.2.2.2.2.1.1 (by decide) okX1_dropGivenAfter (by decide) rfl (Nat.le_of_ble_eq_true rfl) (by decide) (by decide) (Fn_X1_dropGivenAfter k (mUp (cpy (cpy I (b + 3) 8 (I (mC b m))) (b + 4) 8 (I (mH b m))) b 6 m) P (b + 9) (b + 10) (b + 11) (b + 12) (b + 13) (b + 14) hR.2.2.2.2.1 n (by simp [mUp, cpy, fset, hn]) hn6 (by omega) m) ?_
    exact r_iret (d := mX2_goBack) (pc := 36) dX2_goBack_36 rfl (rtI (by first | rw [gbV, if_neg (by omega)] | (rw [gbV, if_pos (by omega)]; simp [mUp, cpy])) (by first | rw [gbI, if_neg (by omega)] | (rw [gbI, if_pos (by omega)]; refine memE ?_; simp [mUp_ne, cpy_ne]))) (by decide) (by decide)
  · refine r_iconst (d := mX2_goBack) (pc := 8) (n := (-1)) dX2_goBack_8 ?_
    exact r_iret (d := mX2_goBack) (pc := 9) dX2_goBack_9 rfl (rtI (by first | rw [gbV, if_neg (by omega)] | (rw [gbV, if_pos (by omega)]; simp [mUp, cpy])) (by first | rw [gbI, if_neg (by omega)] | (rw [gbI, if_pos (by omega)]; refine memE ?_; simp [mUp_ne, cpy_ne]))) (by decide) (by decide)
set_option maxRecDepth 20000 in
set_option maxHeartbeats 4000000 in
theorem Fn_X2_empty (k : Nat) (I : mIt) (P : mPt) (b : Nat) (hR : isRm P b) (c : Int) : WP (k + 1) mX2_empty none (0, 0) (Rt (some (.inl (if 3 ≤ c ∧ c ≤ 7 then I b 0 else -1))) (lay0, (if 3 ≤ c ∧ c ≤ 7 then emI I b c else I), P)) 0 [(0, .inr (some b)), (1, .inl c)] [] (lay0, I, P) := by
  refine r_iload_n (d := mX2_empty) (pc := 0) (i := 1) (v := c) dX2_empty_0 rfl rfl ?_
  refine r_iconst (d := mX2_empty) (pc := 1) (n := 3) dX2_empty_1 ?_
  refine r_bipush (d := mX2_empty) (pc := 2) (n := 7) dX2_empty_2 ?_
  refine r_cSN3 (d := mX2_empty) (pc := 4) (dj := mX5_within) dX2_empty_4 mnRX2_97 staX5_within okX5_within (by decide) rfl (Nat.le_of_ble_eq_true rfl) (by decide) (by decide) (Fn_X5_within k I P c 3 7) ?_
  refine r_ifb_ne (d := mX2_empty) (pc := 7) (tgt := 12) dX2_empty_7 (by decide) (fun h7 => ?_) (fun h7 => ?_)
  · refine r_aload_n (d := mX2_empty) (pc := 12) (i := 0) (v := b) dX2_empty_12 rfl rfl ?_
    refine r_getIs (d := mX2_empty) (pc := 13) (a := b) (kd := 2) (j := 0) (x := (I b 0)) dX2_empty_13 flRX2_9 hR.1.1 (by decide) (by decide) rfl (rfl) ?_
    refine r_istore_n (d := mX2_empty) (pc := 16) (i := 2) (lv' := [(0, .inr (some b)), (1, .inl c), (2, .inl (I b 0))]) dX2_empty_16 rfl (by decide) rfl rfl ?_
    refine r_aload_n (d := mX2_empty) (pc := 17) (i := 0) (v := b) dX2_empty_17 rfl rfl ?_
    refine r_iload_n (d := mX2_empty) (pc := 18) (i := 1) (v := c) dX2_empty_18 rfl rfl ?_
    refine r_putIs (d := mX2_empty) (pc := 19) (a := b) (kd := 2) (j := 0) (lay0, mUp I b 0 c, P) dX2_empty_19 flRX2_9 hR.1.1 (by decide) (by decide) rfl rfl (Or.inl rfl) rfl ?_
    refine r_aload_n (d := mX2_empty) (pc := 22) (i := 0) (v := b) dX2_empty_22 rfl rfl ?_
    refine r_iconst (d := mX2_empty) (pc := 23) (n := 0) dX2_empty_23 ?_
    refine r_putIs (d := mX2_empty) (pc := 24) (a := b) (kd := 2) (j := 1) (lay0, mUp (mUp I b 0 c) b 1 0, P) dX2_empty_24 flRX2_15 hR.1.1 (by decide) (by decide) rfl rfl (Or.inl rfl) rfl ?_
    refine r_aload_n (d := mX2_empty) (pc := 27) (i := 0) (v := b) dX2_empty_27 rfl rfl ?_
    refine r_iconst (d := mX2_empty) (pc := 28) (n := 0) dX2_empty_28 ?_
    refine r_putIs (d := mX2_empty) (pc := 29) (a := b) (kd := 2) (j := 2) (lay0, mUp (mUp (mUp I b 0 c) b 1 0) b 2 0, P) dX2_empty_29 flRX2_18 hR.1.1 (by decide) (by decide) rfl rfl (Or.inl rfl) rfl ?_
    refine r_aload_n (d := mX2_empty) (pc := 32) (i := 0) (v := b) dX2_empty_32 rfl rfl ?_
    refine r_iconst (d := mX2_empty) (pc := 33) (n := 0) dX2_empty_33 ?_
    refine r_putIs (d := mX2_empty) (pc := 34) (a := b) (kd := 2) (j := 3) (lay0, mUp (mUp (mUp (mUp I b 0 c) b 1 0) b 2 0) b 3 0, P) dX2_empty_34 flRX2_21 hR.1.1 (by decide) (by decide) rfl rfl (Or.inl rfl) rfl ?_
    refine r_aload_n (d := mX2_empty) (pc := 37) (i := 0) (v := b) dX2_empty_37 rfl rfl ?_
    refine r_iconst (d := mX2_empty) (pc := 38) (n := 0) dX2_empty_38 ?_
    refine r_putIs (d := mX2_empty) (pc := 39) (a := b) (kd := 2) (j := 4) (lay0, mUp (mUp (mUp (mUp (mUp I b 0 c) b 1 0) b 2 0) b 3 0) b 4 0, P) dX2_empty_39 flRX2_24 hR.1.1 (by decide) (by decide) rfl rfl (Or.inl rfl) rfl ?_
    refine r_aload_n (d := mX2_empty) (pc := 42) (i := 0) (v := b) dX2_empty_42 rfl rfl ?_
    refine r_iconst (d := mX2_empty) (pc := 43) (n := 0) dX2_empty_43 ?_
    refine r_putIs (d := mX2_empty) (pc := 44) (a := b) (kd := 2) (j := 6) (lay0, mUp (mUp (mUp (mUp (mUp (mUp I b 0 c) b 1 0) b 2 0) b 3 0) b 4 0) b 6 0, P) dX2_empty_44 flRX2_30 hR.1.1 (by decide) (by decide) rfl rfl (Or.inl rfl) rfl ?_
    refine r_aload_n (d := mX2_empty) (pc := 47) (i := 0) (v := b) dX2_empty_47 rfl rfl ?_
    refine r_getRs (d := mX2_empty) (pc := 48) (a := b) (kd := 2) (j := 10) (x := b + 9) dX2_empty_48 flRX2_54 hR.1.1 (by decide) (by decide) rfl hR.2.1.2.2.2.1 ?_
    refine r_iconst (d := mX2_empty) (pc := 51) (n := 0) dX2_empty_51 ?_
    refine r_putIs (d := mX2_empty) (pc := 52) (a := b + 9) (kd := 1) (j := 0) (lay0, mUp (mUp (mUp (mUp (mUp (mUp (mUp I b 0 c) b 1 0) b 2 0) b 3 0) b 4 0) b 6 0) (b + 9) 0 0, P) dX2_empty_52 flRX2_101 hR.2.2.2.2.1.1 (by decide) (by decide) rfl rfl (Or.inl rfl) rfl ?_
    refine r_aload_n (d := mX2_empty) (pc := 55) (i := 0) (v := b) dX2_empty_55 rfl rfl ?_
    refine r_getRs (d := mX2_empty) (pc := 56) (a := b) (kd := 2) (j := 8) (x := b + 2) dX2_empty_56 flRX2_40 hR.1.1 (by decide) (by decide) rfl hR.2.1.2.1 ?_
    refine r_cV0 (d := mX2_empty) (pc := 59) (dj := mX0_standAtZero) (a := b + 2) (kd := 0) dX2_empty_59 mlRX2_104 inX0_standAtZero selX0_standAtZero rfl hR.2.2.1.1 (by decide) okX0_standAtZero (by decide) rfl (Nat.le_of_ble_eq_true rfl) (by decide) (by decide) (Fn_X0_standAtZero k (mUp (mUp (mUp (mUp (mUp (mUp (mUp I b 0 c) b 1 0) b 2 0) b 3 0) b 4 0) b 6 0) (b + 9) 0 0) P (b + 2) (b + 3) (b + 4) hR.2.2.1 (by omega)) ?_
    refine r_iload_n (d := mX2_empty) (pc := 62) (i := 2) (v := (I b 0)) dX2_empty_62 rfl rfl ?_
    exact r_iret (d := mX2_empty) (pc := 63) dX2_empty_63 rfl (rtI (by first | rw [if_pos (by omega)] | rw [if_neg (by omega)]) (by (first | rw [if_pos (by omega)] | rw [if_neg (by omega)]); try rfl)) (by decide) (by decide)
  · refine r_iconst (d := mX2_empty) (pc := 10) (n := (-1)) dX2_empty_10 ?_
    exact r_iret (d := mX2_empty) (pc := 11) dX2_empty_11 rfl (rtI (by first | rw [if_pos (by omega)] | rw [if_neg (by omega)]) (by (first | rw [if_pos (by omega)] | rw [if_neg (by omega)]); try rfl)) (by decide) (by decide)
