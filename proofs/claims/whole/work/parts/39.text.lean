/-! ===== the text of the program ===== -/
theorem ly52 : lay0[52]? = some (3, 4) := by decide +kernel
theorem ly53 : lay0[53]? = some (11, 80) := by decide +kernel
theorem ly54 : lay0[54]? = some (10, 3) := by decide +kernel
def isTx (P : mPt) : Prop := P 52 0 = some 53 ∧ P 52 2 = some 54
/-- the text's range: at most 80 signs, each of them plain -/
def XtOK (I : mIt) : Prop := (0 ≤ I 52 1 ∧ I 52 1 ≤ 80) ∧ ∀ i : Int, 0 ≤ i → i < 80 → 0 ≤ I 53 i ∧ I 53 i ≤ 126
def sgV (I : mIt) (x : Int) : Int := if 0 ≤ x ∧ x < I 52 1 then I 53 x else -1
theorem sgV_rng {I : mIt} (h : XtOK I) (x : Int) : -1 ≤ sgV I x ∧ sgV I x ≤ 126 := by
  unfold sgV
  split
  · have := h.1
    have := h.2 x (by omega) (by omega)
    omega
  · omega
def rxV (I : mIt) : Int := if 97 ≤ sgV I (I 52 3) ∧ sgV I (I 52 3) ≤ 104 then sgV I (I 52 3) - 97 else -1
def rxI (I : mIt) : mIt := if 97 ≤ sgV I (I 52 3) ∧ sgV I (I 52 3) ≤ 104 then mUp I 52 3 (I 52 3 + 1) else I
def xnL : Nat → mIt → Int → Nat → mIt × Int × Nat
  | 0, T, v, c => (T, v, c)
  | f + 1, T, v, c => if 48 ≤ sgV T (T 52 3) ∧ sgV T (T 52 3) ≤ 57 then xnL f (mUp T 52 3 (T 52 3 + 1)) (v * 10 + sgV T (T 52 3) - 48) (c + 1) else (T, v, c)
theorem xt_3 {T : mIt} (h : XtOK T) (v : Int) : XtOK (mUp T 52 3 v) := by
  have e1 : mUp T 52 3 v 52 1 = T 52 1 := by simp [mUp, fset]
  have e2 : ∀ i : Int, mUp T 52 3 v 53 i = T 53 i := fun i => by simp [mUp, fset]
  exact ⟨by rw [e1]; exact h.1, fun i a b => by rw [e2]; exact h.2 i a b⟩
theorem xt_33 (T : mIt) (v : Int) : mUp T 52 3 v 52 3 = v := by simp [mUp, fset]
def xnV (I : mIt) : Int := if (xnL 4 I 0 0).2.2 = 0 then -1 else (xnL 4 I 0 0).2.1
def apV (I : mIt) : Int := if I 52 1 < 0 ∨ 80 ≤ I 52 1 then -3 else I 52 1 + 1
def apI (I : mIt) (ch : Int) : mIt := if I 52 1 < 0 ∨ 80 ≤ I 52 1 then I else mUp (mUp I 53 (I 52 1) ch) 52 1 (I 52 1 + 1)
set_option maxRecDepth 20000 in
set_option maxHeartbeats 4000000 in
theorem Fn_X3_append (k : Nat) (I : mIt) (P : mPt) (hX : isTx P) (ch : Int) (hc0 : 0 ≤ ch) (hc1 : ch ≤ 65535) : WP (k + 0) mX3_append none (0, 0) (Rt (some (.inl (apV I))) (lay0, apI I ch, P)) 0 [(0, .inr (some 52)), (1, .inl ch)] [] (lay0, I, P) := by
  refine r_aload_n (d := mX3_append) (pc := 0) (i := 0) (v := 52) dX3_append_0 rfl rfl ?_
  refine r_getIs (d := mX3_append) (pc := 1) (a := 52) (kd := 3) (j := 1) (x := (I 52 1)) dX3_append_1 flRX3_15 ly52 (by decide) (by decide) rfl (rfl) ?_
  refine r_if_lt (d := mX3_append) (pc := 4) (tgt := 16) dX3_append_4 (by decide) (fun h4 => ?_) (fun h4 => ?_)
  · refine r_bipush (d := mX3_append) (pc := 16) (n := (-3)) dX3_append_16 ?_
    exact r_iret (d := mX3_append) (pc := 18) dX3_append_18 rfl (rtI (by unfold apV; repeat (first | rw [if_pos (by first | assumption | omega)] | rw [if_neg (by first | assumption | omega)])) (by refine memE ?_; unfold apI; repeat (first | rw [if_pos (by first | assumption | omega)] | rw [if_neg (by first | assumption | omega)]))) (by decide) (by decide)
  · refine r_aload_n (d := mX3_append) (pc := 7) (i := 0) (v := 52) dX3_append_7 rfl rfl ?_
    refine r_getIs (d := mX3_append) (pc := 8) (a := 52) (kd := 3) (j := 1) (x := (I 52 1)) dX3_append_8 flRX3_15 ly52 (by decide) (by decide) rfl (rfl) ?_
    refine r_bipush (d := mX3_append) (pc := 11) (n := 80) dX3_append_11 ?_
    refine r_icmp_lt (d := mX3_append) (pc := 13) (tgt := 19) dX3_append_13 (by decide) (fun h13 => ?_) (fun h13 => ?_)
    · refine r_aload_n (d := mX3_append) (pc := 19) (i := 0) (v := 52) dX3_append_19 rfl rfl ?_
      refine r_getRs (d := mX3_append) (pc := 20) (a := 52) (kd := 3) (j := 0) (x := 53) dX3_append_20 flRX3_9 ly52 (by decide) (by decide) rfl hX.1 ?_
      refine r_aload_n (d := mX3_append) (pc := 23) (i := 0) (v := 52) dX3_append_23 rfl rfl ?_
      refine r_getIs (d := mX3_append) (pc := 24) (a := 52) (kd := 3) (j := 1) (x := (I 52 1)) dX3_append_24 flRX3_15 ly52 (by decide) (by decide) rfl (rfl) ?_
      refine r_iload_n (d := mX3_append) (pc := 27) (i := 1) (v := ch) dX3_append_27 rfl rfl ?_
      refine r_casts (d := mX3_append) (pc := 28) (a := 53) (lay0, mUp I 53 (I 52 1) ch, P) dX3_append_28 ly53 (by omega) (by omega) (by omega) rfl ?_
      refine r_aload_n (d := mX3_append) (pc := 29) (i := 0) (v := 52) dX3_append_29 rfl rfl ?_
      refine r_dup (d := mX3_append) (pc := 30) dX3_append_30 ?_
      refine r_getIs (d := mX3_append) (pc := 31) (a := 52) (kd := 3) (j := 1) (x := (I 52 1)) dX3_append_31 flRX3_15 ly52 (by decide) (by decide) rfl (by simp [mUp, cpy, fset]) ?_
      refine r_iconst (d := mX3_append) (pc := 34) (n := 1) dX3_append_34 ?_
      refine r_iadd (d := mX3_append) (pc := 35) dX3_append_35 ?_
      refine r_putIs (d := mX3_append) (pc := 36) (a := 52) (kd := 3) (j := 1) (lay0, mUp (mUp I 53 (I 52 1) ch) 52 1 ((I 52 1) + 1), P) dX3_append_36 flRX3_15 ly52 (by decide) (by decide) rfl rfl (Or.inl rfl) rfl ?_
      refine r_aload_n (d := mX3_append) (pc := 39) (i := 0) (v := 52) dX3_append_39 rfl rfl ?_
      refine r_getIs (d := mX3_append) (pc := 40) (a := 52) (kd := 3) (j := 1) (x := ((I 52 1) + 1)) dX3_append_40 flRX3_15 ly52 (by decide) (by decide) rfl (by simp [mUp, cpy, fset]) ?_
      exact r_iret (d := mX3_append) (pc := 43) dX3_append_43 rfl (rtI (by unfold apV; repeat (first | rw [if_pos (by first | assumption | omega)] | rw [if_neg (by first | assumption | omega)])) (by refine memE ?_; unfold apI; repeat (first | rw [if_pos (by first | assumption | omega)] | rw [if_neg (by first | assumption | omega)]))) (by decide) (by decide)
    · refine r_bipush (d := mX3_append) (pc := 16) (n := (-3)) dX3_append_16 ?_
      exact r_iret (d := mX3_append) (pc := 18) dX3_append_18 rfl (rtI (by unfold apV; repeat (first | rw [if_pos (by first | assumption | omega)] | rw [if_neg (by first | assumption | omega)])) (by refine memE ?_; unfold apI; repeat (first | rw [if_pos (by first | assumption | omega)] | rw [if_neg (by first | assumption | omega)]))) (by decide) (by decide)
set_option maxRecDepth 20000 in
set_option maxHeartbeats 4000000 in
theorem Fn_X3_signAt (k : Nat) (I : mIt) (P : mPt) (hX : isTx P) (hT : XtOK I) (x : Int) : WP (k + 0) mX3_signAt none (0, 0) (Rt (some (.inl (sgV I x))) (lay0, I, P)) 0 [(0, .inr (some 52)), (1, .inl x)] [] (lay0, I, P) := by
  have hT1 := hT.1
  refine r_iload_n (d := mX3_signAt) (pc := 0) (i := 1) (v := x) dX3_signAt_0 rfl rfl ?_
  refine r_if_lt (d := mX3_signAt) (pc := 1) (tgt := 27) dX3_signAt_1 (by decide) (fun h1 => ?_) (fun h1 => ?_)
  · refine r_iconst (d := mX3_signAt) (pc := 27) (n := (-1)) dX3_signAt_27 ?_
    exact r_iret (d := mX3_signAt) (pc := 28) dX3_signAt_28 rfl (rtI (by first | (exfalso; omega) | (unfold sgV; repeat (first | rw [if_pos (by first | assumption | omega)] | rw [if_neg (by first | assumption | omega)]))) (by rfl)) (by decide) (by decide)
  · refine r_iload_n (d := mX3_signAt) (pc := 4) (i := 1) (v := x) dX3_signAt_4 rfl rfl ?_
    refine r_aload_n (d := mX3_signAt) (pc := 5) (i := 0) (v := 52) dX3_signAt_5 rfl rfl ?_
    refine r_getIs (d := mX3_signAt) (pc := 6) (a := 52) (kd := 3) (j := 1) (x := (I 52 1)) dX3_signAt_6 flRX3_15 ly52 (by decide) (by decide) rfl (rfl) ?_
    refine r_icmp_ge (d := mX3_signAt) (pc := 9) (tgt := 27) dX3_signAt_9 (by decide) (fun h9 => ?_) (fun h9 => ?_)
    · refine r_iconst (d := mX3_signAt) (pc := 27) (n := (-1)) dX3_signAt_27 ?_
      exact r_iret (d := mX3_signAt) (pc := 28) dX3_signAt_28 rfl (rtI (by first | (exfalso; omega) | (unfold sgV; repeat (first | rw [if_pos (by first | assumption | omega)] | rw [if_neg (by first | assumption | omega)]))) (by rfl)) (by decide) (by decide)
    · refine r_iload_n (d := mX3_signAt) (pc := 12) (i := 1) (v := x) dX3_signAt_12 rfl rfl ?_
      refine r_bipush (d := mX3_signAt) (pc := 13) (n := 80) dX3_signAt_13 ?_
      refine r_icmp_ge (d := mX3_signAt) (pc := 15) (tgt := 27) dX3_signAt_15 (by decide) (fun h15 => ?_) (fun h15 => ?_)
      · refine r_iconst (d := mX3_signAt) (pc := 27) (n := (-1)) dX3_signAt_27 ?_
        exact r_iret (d := mX3_signAt) (pc := 28) dX3_signAt_28 rfl (rtI (by first | (exfalso; omega) | (unfold sgV; repeat (first | rw [if_pos (by first | assumption | omega)] | rw [if_neg (by first | assumption | omega)]))) (by rfl)) (by decide) (by decide)
      · refine r_aload_n (d := mX3_signAt) (pc := 18) (i := 0) (v := 52) dX3_signAt_18 rfl rfl ?_
        refine r_getRs (d := mX3_signAt) (pc := 19) (a := 52) (kd := 3) (j := 0) (x := 53) dX3_signAt_19 flRX3_9 ly52 (by decide) (by decide) rfl hX.1 ?_
        refine r_iload_n (d := mX3_signAt) (pc := 22) (i := 1) (v := x) dX3_signAt_22 rfl rfl ?_
        refine r_calds (d := mX3_signAt) (pc := 23) (a := 53) (x := (I 53 x)) dX3_signAt_23 ly53 (by omega) (by omega) (rfl) ?_
        refine r_goto (d := mX3_signAt) (pc := 24) (tgt := 28) dX3_signAt_24 (by decide) ?_
        exact r_iret (d := mX3_signAt) (pc := 28) dX3_signAt_28 rfl (rtI (by first | (exfalso; omega) | (unfold sgV; repeat (first | rw [if_pos (by first | assumption | omega)] | rw [if_neg (by first | assumption | omega)]))) (by rfl)) (by decide) (by decide)
set_option maxRecDepth 20000 in
set_option maxHeartbeats 4000000 in
theorem Fn_X3_readName (k : Nat) (I : mIt) (P : mPt) (hX : isTx P) (hT : XtOK I) (hnx : 0 ≤ I 52 3 ∧ I 52 3 ≤ 1000) : WP (k + 1) mX3_readName none (0, 0) (Rt (some (.inl (rxV I))) (lay0, rxI I, P)) 0 [(0, .inr (some 52))] [] (lay0, I, P) := by
  have hsr := sgV_rng hT (I 52 3)
  refine r_aload_n (d := mX3_readName) (pc := 0) (i := 0) (v := 52) dX3_readName_0 rfl rfl ?_
  refine r_aload_n (d := mX3_readName) (pc := 1) (i := 0) (v := 52) dX3_readName_1 rfl rfl ?_
  refine r_getIs (d := mX3_readName) (pc := 2) (a := 52) (kd := 3) (j := 3) (x := (I 52 3)) dX3_readName_2 flRX3_23 ly52 (by decide) (by decide) rfl (rfl) ?_
  refine r_cV1 (d := mX3_readName) (pc := 5) (dj := mX3_signAt) (a := 52) (kd := 3) dX3_readName_5 mlRX3_67 inX3_signAt selX3_signAt rfl ly52 (by decide) okX3_signAt (by decide) rfl (Nat.le_of_ble_eq_true rfl) (by decide) (by decide) (Fn_X3_signAt k I P hX hT (I 52 3)) ?_
  refine r_istore_n (d := mX3_readName) (pc := 8) (i := 1) (lv' := [(0, .inr (some 52)), (1, .inl (sgV I (I 52 3)))]) dX3_readName_8 rfl (by decide) rfl rfl ?_
  refine r_iload_n (d := mX3_readName) (pc := 9) (i := 1) (v := sgV I (I 52 3)) dX3_readName_9 rfl rfl ?_
  refine r_bipush (d := mX3_readName) (pc := 10) (n := 97) dX3_readName_10 ?_
  refine r_bipush (d := mX3_readName) (pc := 12) (n := 104) dX3_readName_12 ?_
  refine r_cSN3 (d := mX3_readName) (pc := 14) (dj := mX5_within) dX3_readName_14 mnRX3_71 staX5_within okX5_within (by decide) rfl (Nat.le_of_ble_eq_true rfl) (by decide) (by decide) (Fn_X5_within k I P (sgV I (I 52 3)) 97 104) ?_
  refine r_ifb_ne (d := mX3_readName) (pc := 17) (tgt := 22) dX3_readName_17 (by decide) (fun h17 => ?_) (fun h17 => ?_)
  · refine r_aload_n (d := mX3_readName) (pc := 22) (i := 0) (v := 52) dX3_readName_22 rfl rfl ?_
    refine r_dup (d := mX3_readName) (pc := 23) dX3_readName_23 ?_
    refine r_getIs (d := mX3_readName) (pc := 24) (a := 52) (kd := 3) (j := 3) (x := (I 52 3)) dX3_readName_24 flRX3_23 ly52 (by decide) (by decide) rfl (rfl) ?_
    refine r_iconst (d := mX3_readName) (pc := 27) (n := 1) dX3_readName_27 ?_
    refine r_iadd (d := mX3_readName) (pc := 28) dX3_readName_28 ?_
    refine r_putIs (d := mX3_readName) (pc := 29) (a := 52) (kd := 3) (j := 3) (lay0, mUp I 52 3 ((I 52 3) + 1), P) dX3_readName_29 flRX3_23 ly52 (by decide) (by decide) rfl rfl (Or.inl rfl) rfl ?_
    refine r_iload_n (d := mX3_readName) (pc := 32) (i := 1) (v := sgV I (I 52 3)) dX3_readName_32 rfl rfl ?_
    refine r_bipush (d := mX3_readName) (pc := 33) (n := 97) dX3_readName_33 ?_
    refine r_isub (d := mX3_readName) (pc := 35) dX3_readName_35 ?_
    exact r_iret (d := mX3_readName) (pc := 36) dX3_readName_36 rfl (rtI (by unfold rxV; repeat (first | rw [if_pos (by first | assumption | omega)] | rw [if_neg (by first | assumption | omega)])) (by refine memE ?_; unfold rxI; repeat (first | rw [if_pos (by first | assumption | omega)] | rw [if_neg (by first | assumption | omega)]))) (by decide) (by decide)
  · refine r_iconst (d := mX3_readName) (pc := 20) (n := (-1)) dX3_readName_20 ?_
    exact r_iret (d := mX3_readName) (pc := 21) dX3_readName_21 rfl (rtI (by unfold rxV; repeat (first | rw [if_pos (by first | assumption | omega)] | rw [if_neg (by first | assumption | omega)])) (by refine memE ?_; unfold rxI; repeat (first | rw [if_pos (by first | assumption | omega)] | rw [if_neg (by first | assumption | omega)]))) (by decide) (by decide)
set_option maxRecDepth 20000 in
set_option maxHeartbeats 4000000 in
theorem Fn_X3_readNumber (k : Nat) (I : mIt) (P : mPt) (hX : isTx P) (hT : XtOK I) (hnx : 0 ≤ I 52 3 ∧ I 52 3 ≤ 1000) : WP (k + 1) mX3_readNumber none (0, 0) (Rt (some (.inl (xnV I))) (lay0, (xnL 4 I 0 0).1, P)) 0 [(0, .inr (some 52))] [] (lay0, I, P) := by
  refine r_iconst (d := mX3_readNumber) (pc := 0) (n := 0) dX3_readNumber_0 ?_
  refine r_istore_n (d := mX3_readNumber) (pc := 1) (i := 1) (lv' := [(0, .inr (some 52)), (1, .inl 0)]) dX3_readNumber_1 rfl (by decide) rfl rfl ?_
  refine r_iconst (d := mX3_readNumber) (pc := 2) (n := 0) dX3_readNumber_2 ?_
  refine r_istore_n (d := mX3_readNumber) (pc := 3) (i := 2) (lv' := [(0, .inr (some 52)), (1, .inl 0), (2, .inl 0)]) dX3_readNumber_3 rfl (by decide) rfl rfl ?_
  have L4 : ∀ f : Nat, ∀ (T : mIt) (v : Int) (c : Nat), f + c = 4 → XtOK T → (0 ≤ T 52 3 ∧ T 52 3 ≤ 1000 + (c : Int)) → ((f = 4 ∧ v = 0) ∨ (f = 3 ∧ 0 ≤ v ∧ v ≤ 9) ∨ (f = 2 ∧ 0 ≤ v ∧ v ≤ 99) ∨ (f = 1 ∧ 0 ≤ v ∧ v ≤ 999) ∨ (f = 0 ∧ 0 ≤ v ∧ v ≤ 9999)) → xnL 4 I 0 0 = xnL f T v c → WP (k + 1) mX3_readNumber none (0, 0) (Rt (some (.inl (xnV I))) (lay0, (xnL 4 I 0 0).1, P)) 4 [(0, .inr (some 52)), (1, .inl v), (2, .inl (c : Int))] [] (lay0, T, P) := by
    refine loopD _ (fun f ih4 T v c hfc hTT h9 hb hd => ?_)
    have hsr := sgV_rng hTT (T 52 3)
    refine r_iload_n (d := mX3_readNumber) (pc := 4) (i := 2) (v := (c : Int)) dX3_readNumber_4 rfl rfl ?_
    refine r_iconst (d := mX3_readNumber) (pc := 5) (n := 4) dX3_readNumber_5 ?_
    refine r_icmp_ge (d := mX3_readNumber) (pc := 6) (tgt := 60) dX3_readNumber_6 (by decide) (fun h6 => ?_) (fun h6 => ?_)
    · have hfin : xnL 4 I 0 0 = (T, v, c) := by
        rw [hd]
        rcases Nat.eq_zero_or_pos f with q | q
        · rw [q]; rfl
        · rw [show f = (f - 1) + 1 by omega, xnL, if_neg (by first | exact h24 | (exfalso; omega))]
      refine r_iload_n (d := mX3_readNumber) (pc := 60) (i := 2) (v := (c : Int)) dX3_readNumber_60 rfl rfl ?_
      refine r_if_ne (d := mX3_readNumber) (pc := 61) (tgt := 68) dX3_readNumber_61 (by decide) (fun h61 => ?_) (fun h61 => ?_)
      · refine r_iload_n (d := mX3_readNumber) (pc := 68) (i := 1) (v := v) dX3_readNumber_68 rfl rfl ?_
        exact r_iret (d := mX3_readNumber) (pc := 69) dX3_readNumber_69 rfl (rtI (by unfold xnV; rw [hfin]; dsimp only; repeat (first | rw [if_pos (by first | assumption | omega)] | rw [if_neg (by first | assumption | omega)])) (by refine memE ?_; rw [hfin])) (by decide) (by decide)
      · refine r_iconst (d := mX3_readNumber) (pc := 64) (n := (-1)) dX3_readNumber_64 ?_
        refine r_goto (d := mX3_readNumber) (pc := 65) (tgt := 69) dX3_readNumber_65 (by decide) ?_
        exact r_iret (d := mX3_readNumber) (pc := 69) dX3_readNumber_69 rfl (rtI (by unfold xnV; rw [hfin]; dsimp only; repeat (first | rw [if_pos (by first | assumption | omega)] | rw [if_neg (by first | assumption | omega)])) (by refine memE ?_; rw [hfin])) (by decide) (by decide)
    · refine r_aload_n (d := mX3_readNumber) (pc := 9) (i := 0) (v := 52) dX3_readNumber_9 rfl rfl ?_
      refine r_aload_n (d := mX3_readNumber) (pc := 10) (i := 0) (v := 52) dX3_readNumber_10 rfl rfl ?_
      refine r_getIs (d := mX3_readNumber) (pc := 11) (a := 52) (kd := 3) (j := 3) (x := (T 52 3)) dX3_readNumber_11 flRX3_23 ly52 (by decide) (by decide) rfl (rfl) ?_
      refine r_cV1 (d := mX3_readNumber) (pc := 14) (dj := mX3_signAt) (a := 52) (kd := 3) dX3_readNumber_14 mlRX3_67 inX3_signAt selX3_signAt rfl ly52 (by decide) okX3_signAt (by decide) rfl (Nat.le_of_ble_eq_true rfl) (by decide) (by decide) (Fn_X3_signAt k T P hX hTT (T 52 3)) ?_
      refine r_bipush (d := mX3_readNumber) (pc := 17) (n := 48) dX3_readNumber_17 ?_
      refine r_bipush (d := mX3_readNumber) (pc := 19) (n := 57) dX3_readNumber_19 ?_
      refine r_cSN3 (d := mX3_readNumber) (pc := 21) (dj := mX5_within) dX3_readNumber_21 mnRX3_71 staX5_within okX5_within (by decide) rfl (Nat.le_of_ble_eq_true rfl) (by decide) (by decide) (Fn_X5_within k T P (sgV T (T 52 3)) 48 57) ?_
      refine r_ifb_eq (d := mX3_readNumber) (pc := 24) (tgt := 60) dX3_readNumber_24 (by decide) (fun h24 => ?_) (fun h24 => ?_)
      · have hfin : xnL 4 I 0 0 = (T, v, c) := by
          rw [hd]
          rcases Nat.eq_zero_or_pos f with q | q
          · rw [q]; rfl
          · rw [show f = (f - 1) + 1 by omega, xnL, if_neg (by first | exact h24 | (exfalso; omega))]
        refine r_iload_n (d := mX3_readNumber) (pc := 60) (i := 2) (v := (c : Int)) dX3_readNumber_60 rfl rfl ?_
        refine r_if_ne (d := mX3_readNumber) (pc := 61) (tgt := 68) dX3_readNumber_61 (by decide) (fun h61 => ?_) (fun h61 => ?_)
        · refine r_iload_n (d := mX3_readNumber) (pc := 68) (i := 1) (v := v) dX3_readNumber_68 rfl rfl ?_
          exact r_iret (d := mX3_readNumber) (pc := 69) dX3_readNumber_69 rfl (rtI (by unfold xnV; rw [hfin]; dsimp only; repeat (first | rw [if_pos (by first | assumption | omega)] | rw [if_neg (by first | assumption | omega)])) (by refine memE ?_; rw [hfin])) (by decide) (by decide)
        · refine r_iconst (d := mX3_readNumber) (pc := 64) (n := (-1)) dX3_readNumber_64 ?_
          refine r_goto (d := mX3_readNumber) (pc := 65) (tgt := 69) dX3_readNumber_65 (by decide) ?_
          exact r_iret (d := mX3_readNumber) (pc := 69) dX3_readNumber_69 rfl (rtI (by unfold xnV; rw [hfin]; dsimp only; repeat (first | rw [if_pos (by first | assumption | omega)] | rw [if_neg (by first | assumption | omega)])) (by refine memE ?_; rw [hfin])) (by decide) (by decide)
      · refine r_iload_n (d := mX3_readNumber) (pc := 27) (i := 1) (v := v) dX3_readNumber_27 rfl rfl ?_
        refine r_bipush (d := mX3_readNumber) (pc := 28) (n := 10) dX3_readNumber_28 ?_
        refine r_imul (d := mX3_readNumber) (pc := 30) dX3_readNumber_30 ?_
        refine r_aload_n (d := mX3_readNumber) (pc := 31) (i := 0) (v := 52) dX3_readNumber_31 rfl rfl ?_
        refine r_aload_n (d := mX3_readNumber) (pc := 32) (i := 0) (v := 52) dX3_readNumber_32 rfl rfl ?_
        refine r_getIs (d := mX3_readNumber) (pc := 33) (a := 52) (kd := 3) (j := 3) (x := (T 52 3)) dX3_readNumber_33 flRX3_23 ly52 (by decide) (by decide) rfl (rfl) ?_
        refine r_cV1 (d := mX3_readNumber) (pc := 36) (dj := mX3_signAt) (a := 52) (kd := 3) dX3_readNumber_36 mlRX3_67 inX3_signAt selX3_signAt rfl ly52 (by decide) okX3_signAt (by decide) rfl (Nat.le_of_ble_eq_true rfl) (by decide) (by decide) (Fn_X3_signAt k T P hX hTT (T 52 3)) ?_
        refine r_iadd (d := mX3_readNumber) (pc := 39) dX3_readNumber_39 ?_
        refine r_bipush (d := mX3_readNumber) (pc := 40) (n := 48) dX3_readNumber_40 ?_
        refine r_isub (d := mX3_readNumber) (pc := 42) dX3_readNumber_42 ?_
        refine r_istore_n (d := mX3_readNumber) (pc := 43) (i := 1) (lv' := [(0, .inr (some 52)), (1, .inl (((v * 10) + sgV T (T 52 3)) - 48)), (2, .inl (c : Int))]) dX3_readNumber_43 rfl (by decide) rfl rfl ?_
        refine r_iinc (d := mX3_readNumber) (pc := 44) (i := 2) (v := (c : Int)) (y := ((c + 1 : Nat) : Int)) (lv' := [(0, .inr (some 52)), (1, .inl (((v * 10) + sgV T (T 52 3)) - 48)), (2, .inl ((c + 1 : Nat) : Int))]) dX3_readNumber_44 rfl (by decide) rfl (by omega) rfl ?_
        refine r_aload_n (d := mX3_readNumber) (pc := 47) (i := 0) (v := 52) dX3_readNumber_47 rfl rfl ?_
        refine r_dup (d := mX3_readNumber) (pc := 48) dX3_readNumber_48 ?_
        refine r_getIs (d := mX3_readNumber) (pc := 49) (a := 52) (kd := 3) (j := 3) (x := (T 52 3)) dX3_readNumber_49 flRX3_23 ly52 (by decide) (by decide) rfl (rfl) ?_
        refine r_iconst (d := mX3_readNumber) (pc := 52) (n := 1) dX3_readNumber_52 ?_
        refine r_iadd (d := mX3_readNumber) (pc := 53) dX3_readNumber_53 ?_
        refine r_putIs (d := mX3_readNumber) (pc := 54) (a := 52) (kd := 3) (j := 3) (lay0, mUp T 52 3 ((T 52 3) + 1), P) dX3_readNumber_54 flRX3_23 ly52 (by decide) (by decide) rfl rfl (Or.inl rfl) rfl ?_
        refine r_goto (d := mX3_readNumber) (pc := 57) (tgt := 4) dX3_readNumber_57 (by decide) ?_
        exact wpE (by simp) rfl (by rfl) (ih4 (f - 1) (by omega) (mUp T 52 3 (T 52 3 + 1)) (v * 10 + sgV T (T 52 3) - 48) (c + 1) (by omega) (xt_3 hTT _) (by rw [xt_33]; omega) (by omega) (by rw [hd]; conv => lhs; rw [show f = (f - 1) + 1 by omega, xnL, if_pos h24]))
  exact wpE (by simp) rfl (by rfl) (L4 4 I 0 0 (by omega) hT (by omega) (Or.inl ⟨rfl, rfl⟩) rfl)
