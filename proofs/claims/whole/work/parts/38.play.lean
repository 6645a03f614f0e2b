/-! ===== the model: fault, play ===== -/
def PlOK (X : mIt) : Prop := X 155 7 ≤ 80 ∧ ∃ Inv : mIt → Prop, Inv (plZ X) ∧ (∀ T : mIt, Inv T → TxOK T ∧ (T 155 9 < T 155 7 → T 155 10 = 0 → StOK T ∧ Inv (plS T)))
def fhM (I : mIt) : mIt := cpy I 158 153 (I 156)
def fbM (M : mIt) : mIt := cpy M 156 153 (M 158)
def fpM (I : mIt) : mIt := fbM (plI (fhM I))
def fcM (I : mIt) : mIt := chI (fpM I) (fpM I 156)
def faV (I : mIt) (w : Int) : Int := if ¬ (0 ≤ w ∧ w ≤ 2) then -1 else if plV (fhM I) = -4 ∨ w = 0 then plV (fhM I) else if w = 2 then fpM I 155 10 else if fpM I 155 10 = -4 then 1 else 2
def faI (I : mIt) (w : Int) : mIt := if ¬ (0 ≤ w ∧ w ≤ 2) then I else fpM I
def pyV (I : mIt) : Int := if ¬ plV (fhM I) = -4 then -2 else if plV (fcM I) = -4 then plI (fcM I) 155 11 else -4
def pyI (I : mIt) : mIt := if ¬ plV (fhM I) = -4 then fpM I else plI (fcM I)
set_option maxRecDepth 20000 in
set_option maxHeartbeats 4000000 in
theorem Fn_X6_fault (k : Nat) (I : mIt) (P : mPt) (hM : isMd P) (w : Int) (hP1 : 0 ≤ w ∧ w ≤ 2 → PlOK (fhM I)) : WP (k + 10) mX6_fault none (0, 0) (Rt (some (.inl (faV I w))) (lay0, faI I w, P)) 0 [(0, .inr (some 155)), (1, .inl w)] [] (lay0, I, P) := by
  refine r_iload_n (d := mX6_fault) (pc := 0) (i := 1) (v := w) dX6_fault_0 rfl rfl ?_
  refine r_iconst (d := mX6_fault) (pc := 1) (n := 0) dX6_fault_1 ?_
  refine r_iconst (d := mX6_fault) (pc := 2) (n := 2) dX6_fault_2 ?_
  refine r_cS3 (d := mX6_fault) (pc := 3) (dj := mX6_in) dX6_fault_3 mlRX6_43 staX6_in okX6_in (by decide) rfl (Nat.le_of_ble_eq_true rfl) (by decide) (by decide) (Fn_X6_in (k + 9) I P   w 0 2) ?_
  refine r_ifb_ne (d := mX6_fault) (pc := 6) (tgt := 11) dX6_fault_6 (by decide) (fun h6 => ?_) (fun h6 => ?_)
  · obtain ⟨ht1, Inv1, hz1, hst1⟩ := hP1 (by omega)
    refine r_aload_n (d := mX6_fault) (pc := 11) (i := 0) (v := 155) dX6_fault_11 rfl rfl ?_
    refine r_getRs (d := mX6_fault) (pc := 12) (a := 155) (kd := 6) (j := 0) (x := 156) dX6_fault_12 flRX6_7 ly155 (by decide) (by decide) rfl hM.1 ?_
    refine r_aload_n (d := mX6_fault) (pc := 15) (i := 0) (v := 155) dX6_fault_15 rfl rfl ?_
    refine r_getRs (d := mX6_fault) (pc := 16) (a := 155) (kd := 6) (j := 2) (x := 158) dX6_fault_16 flRX6_16 ly155 (by decide) (by decide) rfl hM.2.2.1 ?_
    refine r_cS2 (d := mX6_fault) (pc := 19) (dj := mX6_copies) dX6_fault_19 mlRX6_88 staX6_copies okX6_copies (by decide) rfl (Nat.le_of_ble_eq_true rfl) (by decide) (by decide) (Fn_X6_copies (k + 9) I P 156 158 ly156 ly158 (by decide)) ?_
    refine r_aload_n (d := mX6_fault) (pc := 22) (i := 0) (v := 155) dX6_fault_22 rfl rfl ?_
    refine r_cV0 (d := mX6_fault) (pc := 23) (dj := mX6_plays) (a := 155) (kd := 6) dX6_fault_23 mlRX6_196 inX6_plays selX6_plays rfl ly155 (by decide) okX6_plays (by decide) rfl (Nat.le_of_ble_eq_true rfl) (by decide) (by decide) (Fn_X6_plays k (fhM I) P hM ht1 Inv1 hz1 hst1) ?_
    refine r_istore_n (d := mX6_fault) (pc := 26) (i := 2) (lv' := [(0, .inr (some 155)), (1, .inl w), (2, .inl (plV (fhM I)))]) dX6_fault_26 rfl (by decide) rfl rfl ?_
    refine r_aload_n (d := mX6_fault) (pc := 27) (i := 0) (v := 155) dX6_fault_27 rfl rfl ?_
    refine r_getRs (d := mX6_fault) (pc := 28) (a := 155) (kd := 6) (j := 2) (x := 158) dX6_fault_28 flRX6_16 ly155 (by decide) (by decide) rfl hM.2.2.1 ?_
    refine r_aload_n (d := mX6_fault) (pc := 31) (i := 0) (v := 155) dX6_fault_31 rfl rfl ?_
    refine r_getRs (d := mX6_fault) (pc := 32) (a := 155) (kd := 6) (j := 0) (x := 156) dX6_fault_32 flRX6_7 ly155 (by decide) (by decide) rfl hM.1 ?_
    refine r_cS2 (d := mX6_fault) (pc := 35) (dj := mX6_copies) dX6_fault_35 mlRX6_88 staX6_copies okX6_copies (by decide) rfl (Nat.le_of_ble_eq_true rfl) (by decide) (by decide) (Fn_X6_copies (k + 9) (plI (fhM I)) P 158 156 ly158 ly156 (by decide)) ?_
    refine r_iload_n (d := mX6_fault) (pc := 38) (i := 2) (v := (plV (fhM I))) dX6_fault_38 rfl rfl ?_
    refine r_bipush (d := mX6_fault) (pc := 39) (n := (-4)) dX6_fault_39 ?_
    refine r_icmp_eq (d := mX6_fault) (pc := 41) (tgt := 48) dX6_fault_41 (by decide) (fun h41 => ?_) (fun h41 => ?_)
    · refine r_iload_n (d := mX6_fault) (pc := 48) (i := 2) (v := (plV (fhM I))) dX6_fault_48 rfl rfl ?_
      refine r_goto (d := mX6_fault) (pc := 49) (tgt := 78) dX6_fault_49 (by decide) ?_
      exact r_iret (d := mX6_fault) (pc := 78) dX6_fault_78 rfl (rtI (by unfold faV; repeat (first | rw [if_pos (by first | assumption | omega)] | rw [if_neg (by first | assumption | omega)])) (by refine memE ?_; unfold faI; repeat (first | rw [if_pos (by first | assumption | omega)] | rw [if_neg (by first | assumption | omega)]); try rfl)) (by decide) (by decide)
    · refine r_iload_n (d := mX6_fault) (pc := 44) (i := 1) (v := w) dX6_fault_44 rfl rfl ?_
      refine r_if_ne (d := mX6_fault) (pc := 45) (tgt := 52) dX6_fault_45 (by decide) (fun h45 => ?_) (fun h45 => ?_)
      · refine r_iload_n (d := mX6_fault) (pc := 52) (i := 1) (v := w) dX6_fault_52 rfl rfl ?_
        refine r_iconst (d := mX6_fault) (pc := 53) (n := 2) dX6_fault_53 ?_
        refine r_icmp_ne (d := mX6_fault) (pc := 54) (tgt := 64) dX6_fault_54 (by decide) (fun h54 => ?_) (fun h54 => ?_)
        · refine r_aload_n (d := mX6_fault) (pc := 64) (i := 0) (v := 155) dX6_fault_64 rfl rfl ?_
          refine r_getIs (d := mX6_fault) (pc := 65) (a := 155) (kd := 6) (j := 10) (x := ((fpM I) 155 10)) dX6_fault_65 flRX6_184 ly155 (by decide) (by decide) rfl (rfl) ?_
          refine r_bipush (d := mX6_fault) (pc := 68) (n := (-4)) dX6_fault_68 ?_
          refine r_icmp_ne (d := mX6_fault) (pc := 70) (tgt := 77) dX6_fault_70 (by decide) (fun h70 => ?_) (fun h70 => ?_)
          · refine r_iconst (d := mX6_fault) (pc := 77) (n := 2) dX6_fault_77 ?_
            exact r_iret (d := mX6_fault) (pc := 78) dX6_fault_78 rfl (rtI (by unfold faV; repeat (first | rw [if_pos (by first | assumption | omega)] | rw [if_neg (by first | assumption | omega)])) (by refine memE ?_; unfold faI; repeat (first | rw [if_pos (by first | assumption | omega)] | rw [if_neg (by first | assumption | omega)]); try rfl)) (by decide) (by decide)
          · refine r_iconst (d := mX6_fault) (pc := 73) (n := 1) dX6_fault_73 ?_
            refine r_goto (d := mX6_fault) (pc := 74) (tgt := 78) dX6_fault_74 (by decide) ?_
            exact r_iret (d := mX6_fault) (pc := 78) dX6_fault_78 rfl (rtI (by unfold faV; repeat (first | rw [if_pos (by first | assumption | omega)] | rw [if_neg (by first | assumption | omega)])) (by refine memE ?_; unfold faI; repeat (first | rw [if_pos (by first | assumption | omega)] | rw [if_neg (by first | assumption | omega)]); try rfl)) (by decide) (by decide)
        · refine r_aload_n (d := mX6_fault) (pc := 57) (i := 0) (v := 155) dX6_fault_57 rfl rfl ?_
          refine r_getIs (d := mX6_fault) (pc := 58) (a := 155) (kd := 6) (j := 10) (x := ((fpM I) 155 10)) dX6_fault_58 flRX6_184 ly155 (by decide) (by decide) rfl (rfl) ?_
          refine r_goto (d := mX6_fault) (pc := 61) (tgt := 78) dX6_fault_61 (by decide) ?_
          exact r_iret (d := mX6_fault) (pc := 78) dX6_fault_78 rfl (rtI (by unfold faV; repeat (first | rw [if_pos (by first | assumption | omega)] | rw [if_neg (by first | assumption | omega)])) (by refine memE ?_; unfold faI; repeat (first | rw [if_pos (by first | assumption | omega)] | rw [if_neg (by first | assumption | omega)]); try rfl)) (by decide) (by decide)
      · refine r_iload_n (d := mX6_fault) (pc := 48) (i := 2) (v := (plV (fhM I))) dX6_fault_48 rfl rfl ?_
        refine r_goto (d := mX6_fault) (pc := 49) (tgt := 78) dX6_fault_49 (by decide) ?_
        exact r_iret (d := mX6_fault) (pc := 78) dX6_fault_78 rfl (rtI (by unfold faV; repeat (first | rw [if_pos (by first | assumption | omega)] | rw [if_neg (by first | assumption | omega)])) (by refine memE ?_; unfold faI; repeat (first | rw [if_pos (by first | assumption | omega)] | rw [if_neg (by first | assumption | omega)]); try rfl)) (by decide) (by decide)
  · refine r_iconst (d := mX6_fault) (pc := 9) (n := (-1)) dX6_fault_9 ?_
    exact r_iret (d := mX6_fault) (pc := 10) dX6_fault_10 rfl (rtI (by unfold faV; repeat (first | rw [if_pos (by first | assumption | omega)] | rw [if_neg (by first | assumption | omega)])) (by refine memE ?_; unfold faI; repeat (first | rw [if_pos (by first | assumption | omega)] | rw [if_neg (by first | assumption | omega)]); try rfl)) (by decide) (by decide)
set_option maxRecDepth 20000 in
set_option maxHeartbeats 4000000 in
theorem Fn_X6_play (k : Nat) (I : mIt) (P : mPt) (hM : isMd P) (hP1 : PlOK (fhM I)) (hqc : 0 ≤ fpM I 155 4 ∧ fpM I 155 4 ≤ 4) (hP2 : plV (fhM I) = -4 → PlOK (fcM I)) : WP (k + 10) mX6_play none (0, 0) (Rt (some (.inl (pyV I))) (lay0, pyI I, P)) 0 [(0, .inr (some 155))] [] (lay0, I, P) := by
  obtain ⟨ht1, Inv1, hz1, hst1⟩ := hP1
  refine r_aload_n (d := mX6_play) (pc := 0) (i := 0) (v := 155) dX6_play_0 rfl rfl ?_
  refine r_getRs (d := mX6_play) (pc := 1) (a := 155) (kd := 6) (j := 0) (x := 156) dX6_play_1 flRX6_7 ly155 (by decide) (by decide) rfl hM.1 ?_
  refine r_aload_n (d := mX6_play) (pc := 4) (i := 0) (v := 155) dX6_play_4 rfl rfl ?_
  refine r_getRs (d := mX6_play) (pc := 5) (a := 155) (kd := 6) (j := 2) (x := 158) dX6_play_5 flRX6_16 ly155 (by decide) (by decide) rfl hM.2.2.1 ?_
  refine r_cS2 (d := mX6_play) (pc := 8) (dj := mX6_copies) dX6_play_8 mlRX6_88 staX6_copies okX6_copies (by decide) rfl (Nat.le_of_ble_eq_true rfl) (by decide) (by decide) (Fn_X6_copies (k + 9) I P 156 158 ly156 ly158 (by decide)) ?_
  refine r_aload_n (d := mX6_play) (pc := 11) (i := 0) (v := 155) dX6_play_11 rfl rfl ?_
  refine r_cV0 (d := mX6_play) (pc := 12) (dj := mX6_plays) (a := 155) (kd := 6) dX6_play_12 mlRX6_196 inX6_plays selX6_plays rfl ly155 (by decide) okX6_plays (by decide) rfl (Nat.le_of_ble_eq_true rfl) (by decide) (by decide) (Fn_X6_plays k (fhM I) P hM ht1 Inv1 hz1 hst1) ?_
  refine r_istore_n (d := mX6_play) (pc := 15) (i := 1) (lv' := [(0, .inr (some 155)), (1, .inl (plV (fhM I)))]) dX6_play_15 rfl (by decide) rfl rfl ?_
  refine r_aload_n (d := mX6_play) (pc := 16) (i := 0) (v := 155) dX6_play_16 rfl rfl ?_
  refine r_getRs (d := mX6_play) (pc := 17) (a := 155) (kd := 6) (j := 2) (x := 158) dX6_play_17 flRX6_16 ly155 (by decide) (by decide) rfl hM.2.2.1 ?_
  refine r_aload_n (d := mX6_play) (pc := 20) (i := 0) (v := 155) dX6_play_20 rfl rfl ?_
  refine r_getRs (d := mX6_play) (pc := 21) (a := 155) (kd := 6) (j := 0) (x := 156) dX6_play_21 flRX6_7 ly155 (by decide) (by decide) rfl hM.1 ?_
  refine r_cS2 (d := mX6_play) (pc := 24) (dj := mX6_copies) dX6_play_24 mlRX6_88 staX6_copies okX6_copies (by decide) rfl (Nat.le_of_ble_eq_true rfl) (by decide) (by decide) (Fn_X6_copies (k + 9) (plI (fhM I)) P 158 156 ly158 ly156 (by decide)) ?_
  refine r_iload_n (d := mX6_play) (pc := 27) (i := 1) (v := (plV (fhM I))) dX6_play_27 rfl rfl ?_
  refine r_bipush (d := mX6_play) (pc := 28) (n := (-4)) dX6_play_28 ?_
  refine r_icmp_eq (d := mX6_play) (pc := 30) (tgt := 36) dX6_play_30 (by decide) (fun h30 => ?_) (fun h30 => ?_)
  · obtain ⟨ht2, Inv2, hz2, hst2⟩ := hP2 (by omega)
    refine r_aload_n (d := mX6_play) (pc := 36) (i := 0) (v := 155) dX6_play_36 rfl rfl ?_
    refine r_aload_n (d := mX6_play) (pc := 37) (i := 0) (v := 155) dX6_play_37 rfl rfl ?_
    refine r_getRs (d := mX6_play) (pc := 38) (a := 155) (kd := 6) (j := 0) (x := 156) dX6_play_38 flRX6_7 ly155 (by decide) (by decide) rfl hM.1 ?_
    refine r_cV1 (d := mX6_play) (pc := 41) (dj := mX6_changes) (a := 155) (kd := 6) dX6_play_41 mlRX6_81 inX6_changes selX6_changes rfl ly155 (by decide) okX6_changes (by decide) rfl (Nat.le_of_ble_eq_true rfl) (by decide) (by decide) (Fn_X6_changes (k + 9) (fpM I) P hM hqc 156 ly156 (by decide) (by decide)) ?_
    refine r_aload_n (d := mX6_play) (pc := 44) (i := 0) (v := 155) dX6_play_44 rfl rfl ?_
    refine r_cV0 (d := mX6_play) (pc := 45) (dj := mX6_plays) (a := 155) (kd := 6) dX6_play_45 mlRX6_196 inX6_plays selX6_plays rfl ly155 (by decide) okX6_plays (by decide) rfl (Nat.le_of_ble_eq_true rfl) (by decide) (by decide) (Fn_X6_plays k (fcM I) P hM ht2 Inv2 hz2 hst2) ?_
    refine r_bipush (d := mX6_play) (pc := 48) (n := (-4)) dX6_play_48 ?_
    refine r_icmp_ne (d := mX6_play) (pc := 50) (tgt := 60) dX6_play_50 (by decide) (fun h50 => ?_) (fun h50 => ?_)
    · refine r_bipush (d := mX6_play) (pc := 60) (n := (-4)) dX6_play_60 ?_
      exact r_iret (d := mX6_play) (pc := 62) dX6_play_62 rfl (rtI (by unfold pyV; repeat (first | rw [if_pos (by first | assumption | omega)] | rw [if_neg (by first | assumption | omega)])) (by refine memE ?_; unfold pyI; repeat (first | rw [if_pos (by first | assumption | omega)] | rw [if_neg (by first | assumption | omega)]); try rfl)) (by decide) (by decide)
    · refine r_aload_n (d := mX6_play) (pc := 53) (i := 0) (v := 155) dX6_play_53 rfl rfl ?_
      refine r_getIs (d := mX6_play) (pc := 54) (a := 155) (kd := 6) (j := 11) (x := ((plI (fcM I)) 155 11)) dX6_play_54 flRX6_181 ly155 (by decide) (by decide) rfl (rfl) ?_
      refine r_goto (d := mX6_play) (pc := 57) (tgt := 62) dX6_play_57 (by decide) ?_
      exact r_iret (d := mX6_play) (pc := 62) dX6_play_62 rfl (rtI (by unfold pyV; repeat (first | rw [if_pos (by first | assumption | omega)] | rw [if_neg (by first | assumption | omega)])) (by refine memE ?_; unfold pyI; repeat (first | rw [if_pos (by first | assumption | omega)] | rw [if_neg (by first | assumption | omega)]); try rfl)) (by decide) (by decide)
  · refine r_bipush (d := mX6_play) (pc := 33) (n := (-2)) dX6_play_33 ?_
    exact r_iret (d := mX6_play) (pc := 35) dX6_play_35 rfl (rtI (by unfold pyV; repeat (first | rw [if_pos (by first | assumption | omega)] | rw [if_neg (by first | assumption | omega)])) (by refine memE ?_; unfold pyI; repeat (first | rw [if_pos (by first | assumption | omega)] | rw [if_neg (by first | assumption | omega)]); try rfl)) (by decide) (by decide)
