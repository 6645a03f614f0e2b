/-! ===== Room: sitting down, values, copies, orders ===== -/
/-- the room's numbers are in their bounds -/
def Bd (I : mIt) (b : Nat) : Prop := (0 ≤ I b 1 ∧ I b 1 ≤ 60000) ∧ (0 ≤ I b 2 ∧ I b 2 ≤ 2000000000) ∧ (0 ≤ I b 3 ∧ I b 3 ≤ 2000000000) ∧ (0 ≤ I b 4 ∧ I b 4 ≤ 2000000000) ∧ (0 ≤ I b 5 ∧ I b 5 ≤ 2000000000) ∧ (0 ≤ I (b + 1) 0 ∧ I (b + 1) 0 ≤ 9) ∧ (0 ≤ I (b + 1) 1 ∧ I (b + 1) 1 ≤ 9) ∧ (0 ≤ I (b + 1) 2 ∧ I (b + 1) 2 ≤ 9) ∧ (0 ≤ I (b + 1) 3 ∧ I (b + 1) 3 ≤ 9)
theorem mks_congr {I J : mIt} {b : Nat} (h : ∀ i : Nat, J (b + 17 + 3 * i) = I (b + 17 + 3 * i)) : mks J b = mks I b := by
  funext i
  have := h i
  simpa [mks, mC] using this
theorem pinA_congr {I J : mIt} {b : Nat} (n mc : Nat) (h : ∀ x, b + 11 ≤ x → J x = I x) : pinA J b n mc = pinA I b n mc := by
  unfold pinA
  rw [mks_congr (fun i => h _ (by omega)), h _ (by omega), h _ (by omega), h _ (by omega)]
theorem tkn_congr {I J : mIt} {b : Nat} (n mc : Nat) (h : ∀ x, b + 11 ≤ x → J x = I x) (h3 : J (b + 3) = I (b + 3)) : tkn J b n mc = tkn I b n mc := by
  unfold tkn
  rw [pinA_congr n mc h, h3]
theorem seatV_congr {I J : mIt} {b : Nat} (n mc nc : Nat) (one other : Int) (h : ∀ x, b + 11 ≤ x → J x = I x) (h3 : J (b + 3) = I (b + 3)) (h1 : J b 1 = I b 1) (h7 : J (b + 7) = I (b + 7)) (h8 : J (b + 8) = I (b + 8)) : seatV J b n mc nc one other = seatV I b n mc nc one other := by
  unfold seatV seC0 seC1 cand
  rw [tkn_congr n mc h h3, pinA_congr n mc h, h3, h1, h7, h8]
def fsB (I : mIt) (b n mc nc : Nat) (name one other : Int) : Bool := decide (I (b + 3) name ≠ -1 ∨ 0 ≤ seatV I b n mc nc one other)
def fsI (I : mIt) (b n mc nc : Nat) (name one other : Int) : mIt := if I (b + 3) name = -1 then seatI (mUp I b 4 (I b 4 + 1)) b n mc nc name (I (b + 4) name) (I b 1 + I (b + 1) 2) one other else I
theorem seatV_up4 (I : mIt) (b n mc nc : Nat) (one other v : Int) : seatV (mUp I b 4 v) b n mc nc one other = seatV I b n mc nc one other :=
  seatV_congr n mc nc one other (fun x hx => mUp_ne _ _ _ (by omega)) (mUp_ne _ _ _ (by omega)) (by rw [mUp_at, fset_ne _ _ (by decide)]) (mUp_ne _ _ _ (by omega)) (mUp_ne _ _ _ (by omega))
theorem fsI_ne (I : mIt) {b x : Nat} (n mc nc : Nat) (name one other : Int) (h0 : x ≠ b) (h1 : x ≠ b + 3) (h2 : x ≠ b + 4) (h3 : x ≠ b + 6) (h4 : x ≠ b + 7) (h5 : x ≠ b + 8) : fsI I b n mc nc name one other x = I x := by
  unfold fsI
  split
  · rw [seatI_ne _ _ _ _ _ _ _ _ _ h0 h1 h2 h3 h4 h5, mUp_ne _ _ _ h0]
  · rfl
theorem fsI_b (I : mIt) (b n mc nc : Nat) (name one other : Int) {k : Int} (h : k ≠ 3) (h4 : k ≠ 4) : fsI I b n mc nc name one other b k = I b k := by
  unfold fsI
  split
  · rw [seatI_b _ _ _ _ _ _ _ _ _ _ h, mUp_at, fset_ne _ _ h4]
  · rfl
theorem sendI_3 (I : mIt) (b : Nat) (ch v : Int) : sendI I b ch v b 3 = I b 3 + 1 := by
  unfold sendI
  rw [cpy_ne _ _ _ (by omega), cpy_ne _ _ _ (by omega), mUp_at, fset_at]
theorem seatI_3 (I : mIt) (b n mc nc : Nat) (name value kn one other : Int) : I b 3 ≤ seatI I b n mc nc name value kn one other b 3 ∧ seatI I b n mc nc name value kn one other b 3 ≤ I b 3 + 1 := by
  unfold seatI
  split
  · omega
  · rw [mUp_ne _ _ _ (by omega), vPlace_ne _ _ _ _ _ (by omega) (by omega) (by omega)]
    unfold seatP
    split
    · rw [sendI_3]; omega
    · omega
theorem fsI_34 (I : mIt) (b n mc nc : Nat) (name one other : Int) : (I b 3 ≤ fsI I b n mc nc name one other b 3 ∧ fsI I b n mc nc name one other b 3 ≤ I b 3 + 1) ∧ (I b 4 ≤ fsI I b n mc nc name one other b 4 ∧ fsI I b n mc nc name one other b 4 ≤ I b 4 + 1) := by
  unfold fsI
  split
  · have h := seatI_3 (mUp I b 4 (I b 4 + 1)) b n mc nc name (I (b + 4) name) (I b 1 + I (b + 1) 2) one other
    rw [mUp_at, fset_ne _ _ (by decide)] at h
    refine ⟨h, ?_⟩
    rw [seatI_b _ _ _ _ _ _ _ _ _ _ (by decide), mUp_at, fset_at]
    omega
  · omega
def fcB (I : mIt) (b n mc nc : Nat) (name one other : Int) (h : Bd I b) : True := trivial
theorem fsI_bd {I : mIt} {b : Nat} (n mc nc : Nat) (name one other : Int) (h : Bd I b) (h3 : I b 3 ≤ 1999999999) (h4 : I b 4 ≤ 1999999999) : Bd (fsI I b n mc nc name one other) b := by
  have h9 := fsI_34 I b n mc nc name one other
  unfold Bd at h ⊢
  have e : ∀ k, k ≠ 3 → k ≠ 4 → fsI I b n mc nc name one other b k = I b k := fun k h1 h2 => fsI_b _ _ _ _ _ _ _ _ h1 h2
  have e1 : fsI I b n mc nc name one other (b + 1) = I (b + 1) := fsI_ne _ _ _ _ _ _ _ (by omega) (by omega) (by omega) (by omega) (by omega) (by omega)
  rw [e 1 (by decide) (by decide), e 2 (by decide) (by decide), e 5 (by decide) (by decide), e1]
  omega
set_option maxRecDepth 20000 in
set_option maxHeartbeats 4000000 in
theorem Fn_X2_findSeat (k : Nat) (I : mIt) (P : mPt) (b : Nat) (hR : isRm P b) (n : Nat) (hn : I (b + 9) 0 = n) (hn6 : n ≤ 6) (mc : Nat) (hm : I b 6 = mc) (hm3 : mc ≤ 3) (nc : Nat) (hc : I b 0 = nc) (hc7 : nc ≤ 7) (hs : mI (I b 3 + 1)) (hsd : mI (I b 4 + 1)) (ht : mI (I b 1 + I (b + 1) 2)) (name one other : Int) (hm0 : 0 ≤ name) (hm8 : name < 8) : WP (k + 2) mX2_findSeat none (0, 0) (Rt (some (.inl (bI (fsB I b n mc nc name one other = true)))) (lay0, fsI I b n mc nc name one other, P)) 0 [(0, .inr (some b)), (1, .inl name), (2, .inl one), (3, .inl other)] [] (lay0, I, P) := by
  refine r_aload_n (d := mX2_findSeat) (pc := 0) (i := 0) (v := b) dX2_findSeat_0 rfl rfl ?_
  refine r_getRs (d := mX2_findSeat) (pc := 1) (a := b) (kd := 2) (j := 8) (x := b + 2) dX2_findSeat_1 flRX2_40 hR.1.1 (by decide) (by decide) rfl hR.2.1.2.1 ?_
  refine r_getRs (d := mX2_findSeat) (pc := 4) (a := b + 2) (kd := 0) (j := 0) (x := b + 3) dX2_findSeat_4 flRX2_111 hR.2.2.1.1 (by decide) (by decide) rfl hR.2.2.1.2.2.2.1 ?_
  refine r_iload_n (d := mX2_findSeat) (pc := 7) (i := 1) (v := name) dX2_findSeat_7 rfl rfl ?_
  refine r_ialds (d := mX2_findSeat) (pc := 8) (a := b + 3) (x := (I (b + 3) name)) dX2_findSeat_8 hR.2.2.1.2.1 (by omega) (by omega) (rfl) ?_
  refine r_iconst (d := mX2_findSeat) (pc := 9) (n := (-1)) dX2_findSeat_9 ?_
  refine r_icmp_eq (d := mX2_findSeat) (pc := 10) (tgt := 15) dX2_findSeat_10 (by decide) (fun h10 => ?_) (fun h10 => ?_)
  · refine r_aload_n (d := mX2_findSeat) (pc := 15) (i := 0) (v := b) dX2_findSeat_15 rfl rfl ?_
    refine r_dup (d := mX2_findSeat) (pc := 16) dX2_findSeat_16 ?_
    refine r_getIs (d := mX2_findSeat) (pc := 17) (a := b) (kd := 2) (j := 4) (x := (I b 4)) dX2_findSeat_17 flRX2_24 hR.1.1 (by decide) (by decide) rfl (rfl) ?_
    refine r_iconst (d := mX2_findSeat) (pc := 20) (n := 1) dX2_findSeat_20 ?_
    refine r_iadd (d := mX2_findSeat) (pc := 21) dX2_findSeat_21 ?_ (hsd)
    refine r_putIs (d := mX2_findSeat) (pc := 22) (a := b) (kd := 2) (j := 4) (lay0, mUp I b 4 ((I b 4) + 1), P) dX2_findSeat_22 flRX2_24 hR.1.1 (by decide) (by decide) rfl rfl (Or.inl rfl) rfl ?_
    refine r_aload_n (d := mX2_findSeat) (pc := 25) (i := 0) (v := b) dX2_findSeat_25 rfl rfl ?_
    refine r_iload_n (d := mX2_findSeat) (pc := 26) (i := 1) (v := name) dX2_findSeat_26 rfl rfl ?_
    refine r_aload_n (d := mX2_findSeat) (pc := 27) (i := 0) (v := b) dX2_findSeat_27 rfl rfl ?_
    refine r_getRs (d := mX2_findSeat) (pc := 28) (a := b) (kd := 2) (j := 8) (x := b + 2) dX2_findSeat_28 flRX2_40 hR.1.1 (by decide) (by decide) rfl hR.2.1.2.1 ?_
    refine r_getRs (d := mX2_findSeat) (pc := 31) (a := b + 2) (kd := 0) (j := 1) (x := b + 4) dX2_findSeat_31 flRX2_150 hR.2.2.1.1 (by decide) (by decide) rfl hR.2.2.1.2.2.2.2 ?_
    refine r_iload_n (d := mX2_findSeat) (pc := 34) (i := 1) (v := name) dX2_findSeat_34 rfl rfl ?_
    refine r_ialds (d := mX2_findSeat) (pc := 35) (a := b + 4) (x := (I (b + 4) name)) dX2_findSeat_35 hR.2.2.1.2.2.1 (by omega) (by omega) (by simp [mUp, cpy, fset]) ?_
    refine r_aload_n (d := mX2_findSeat) (pc := 36) (i := 0) (v := b) dX2_findSeat_36 rfl rfl ?_
    refine r_getIs (d := mX2_findSeat) (pc := 37) (a := b) (kd := 2) (j := 1) (x := (I b 1)) dX2_findSeat_37 flRX2_15 hR.1.1 (by decide) (by decide) rfl (by simp [mUp, cpy, fset]) ?_
    refine r_aload_n (d := mX2_findSeat) (pc := 40) (i := 0) (v := b) dX2_findSeat_40 rfl rfl ?_
    refine r_getRs (d := mX2_findSeat) (pc := 41) (a := b) (kd := 2) (j := 7) (x := b + 1) dX2_findSeat_41 flRX2_33 hR.1.1 (by decide) (by decide) rfl hR.2.1.1 ?_
    refine r_iconst (d := mX2_findSeat) (pc := 44) (n := 2) dX2_findSeat_44 ?_
    refine r_ialds (d := mX2_findSeat) (pc := 45) (a := b + 1) (x := (I (b + 1) 2)) dX2_findSeat_45 hR.1.2.1 (by decide) (by decide) (by simp [mUp, cpy, fset]) ?_
    refine r_iadd (d := mX2_findSeat) (pc := 46) dX2_findSeat_46 ?_ (ht)
    refine r_iload_n (d := mX2_findSeat) (pc := 47) (i := 2) (v := one) dX2_findSeat_47 rfl rfl ?_
    refine r_iload_n (d := mX2_findSeat) (pc := 48) (i := 3) (v := other) dX2_findSeat_48 rfl rfl ?_
    refine r_cV5 (d := mX2_findSeat) (pc := 49) (dj := mX2_seat) (a := b) (kd := 2) dX2_findSeat_49 mlRX2_114 inX2_seat selX2_seat rfl hR.1.1 (by decide) okX2_seat (by decide) rfl (Nat.le_of_ble_eq_true rfl) (by decide) (by decide) (Fn_X2_seat k (mUp I b 4 ((I b 4) + 1)) P b hR n (by simp [mUp, cpy, fset, hn]) hn6 mc (by simp [mUp, cpy, fset, hm]) hm3 nc (by simp [mUp, cpy, fset, hc]) hc7 (by simp [mUp, cpy, fset, hs]) name (I (b + 4) name) ((I b 1) + (I (b + 1) 2)) one other (by omega) (by omega)) ?_
    rw [seatV_up4]
    refine r_if_lt (d := mX2_findSeat) (pc := 52) (tgt := 59) dX2_findSeat_52 (by decide) (fun h52 => ?_) (fun h52 => ?_)
    · refine r_iconst (d := mX2_findSeat) (pc := 59) (n := 0) dX2_findSeat_59 ?_
      exact r_zret (d := mX2_findSeat) (pc := 60) dX2_findSeat_60 rfl (Or.inl rfl) (rtI (by first | exact (bI_t (by simp [fsB]; omega)).symm | exact (bI_f (by simp [fsB, h10]; omega)).symm) (by first | rw [fsI, if_neg h10] | rw [fsI, if_pos h10])) (by decide) (by decide)
    · refine r_iconst (d := mX2_findSeat) (pc := 55) (n := 1) dX2_findSeat_55 ?_
      refine r_goto (d := mX2_findSeat) (pc := 56) (tgt := 60) dX2_findSeat_56 (by decide) ?_
      exact r_zret (d := mX2_findSeat) (pc := 60) dX2_findSeat_60 rfl (Or.inr rfl) (rtI (by first | exact (bI_t (by simp [fsB]; omega)).symm | exact (bI_f (by simp [fsB, h10]; omega)).symm) (by first | rw [fsI, if_neg h10] | rw [fsI, if_pos h10])) (by decide) (by decide)
  · refine r_iconst (d := mX2_findSeat) (pc := 13) (n := 1) dX2_findSeat_13 ?_
    exact r_zret (d := mX2_findSeat) (pc := 14) dX2_findSeat_14 rfl (Or.inr rfl) (rtI (by exact (bI_t (by simp [fsB, h10])).symm) (by first | rw [fsI, if_neg h10] | rw [fsI, if_pos h10])) (by decide) (by decide)
def pvV (I : mIt) (b n mc nc : Nat) (name value : Int) : Int := if (0 ≤ name ∧ name ≤ 7) ∧ (0 ≤ value ∧ value ≤ 9999) then seatV (mUp (mUp I b 5 (I b 5 + 1)) (b + 3) name (-1)) b n mc nc (-1) (-1) else -1
def pvI (I : mIt) (b n mc nc : Nat) (name value : Int) : mIt := if (0 ≤ name ∧ name ≤ 7) ∧ (0 ≤ value ∧ value ≤ 9999) then seatI (mUp (mUp I b 5 (I b 5 + 1)) (b + 3) name (-1)) b n mc nc name value (I b 1) (-1) (-1) else I
def cpI1 (I : mIt) (b n mc nc : Nat) (frm : Int) : mIt := fsI (mUp I b 5 (I b 5 + 1)) b n mc nc frm frm frm
def cpyOk (name frm : Int) : Prop := (0 ≤ name ∧ name ≤ 7) ∧ (0 ≤ frm ∧ frm ≤ 7) ∧ name ≠ frm
def cnB (I : mIt) (b n mc nc : Nat) (frm : Int) : Bool := fsB (mUp I b 5 (I b 5 + 1)) b n mc nc frm frm frm
def cnV (I : mIt) (b n mc nc : Nat) (name frm : Int) : Int := if ¬ ((0 ≤ name ∧ name ≤ 7) ∧ (0 ≤ frm ∧ frm ≤ 7) ∧ name ≠ frm) then -1 else if cnB I b n mc nc frm = true then cpI1 I b n mc nc frm (b + 3) frm else -2
def cnI (I : mIt) (b n mc nc : Nat) (name frm : Int) : mIt := if ¬ ((0 ≤ name ∧ name ≤ 7) ∧ (0 ≤ frm ∧ frm ≤ 7) ∧ name ≠ frm) then I else if cnB I b n mc nc frm = true then vUse (mUp (cpI1 I b n mc nc frm) (b + 3) name (cpI1 I b n mc nc frm (b + 3) frm)) (b + 8) (cpI1 I b n mc nc frm (b + 3) frm) (I b 5 + 1) else cpI1 I b n mc nc frm
set_option maxRecDepth 20000 in
set_option maxHeartbeats 4000000 in
theorem Fn_X2_putValue (k : Nat) (I : mIt) (P : mPt) (b : Nat) (hR : isRm P b) (n : Nat) (hn : I (b + 9) 0 = n) (hn6 : n ≤ 6) (mc : Nat) (hm : I b 6 = mc) (hm3 : mc ≤ 3) (nc : Nat) (hc : I b 0 = nc) (hc7 : nc ≤ 7) (hB : Bd I b) (hB3 : I b 3 ≤ 1999999990) (hB4 : I b 4 ≤ 1999999990) (hB5 : I b 5 ≤ 1999999990) (name value : Int) : WP (k + 2) mX2_putValue none (0, 0) (Rt (some (.inl (pvV I b n mc nc name value))) (lay0, pvI I b n mc nc name value, P)) 0 [(0, .inr (some b)), (1, .inl name), (2, .inl value)] [] (lay0, I, P) := by
  unfold Bd at hB
  refine r_iload_n (d := mX2_putValue) (pc := 0) (i := 1) (v := name) dX2_putValue_0 rfl rfl ?_
  refine r_cSN1 (d := mX2_putValue) (pc := 1) (dj := mX5_isName) dX2_putValue_1 mnRX2_107 staX5_isName okX5_isName (by decide) rfl (Nat.le_of_ble_eq_true rfl) (by decide) (by decide) (Fn_X5_isName k I P name) ?_
  refine r_ifb_eq (d := mX2_putValue) (pc := 4) (tgt := 18) dX2_putValue_4 (by decide) (fun h4 => ?_) (fun h4 => ?_)
  · refine r_iconst (d := mX2_putValue) (pc := 18) (n := (-1)) dX2_putValue_18 ?_
    exact r_iret (d := mX2_putValue) (pc := 19) dX2_putValue_19 rfl (rtI (by rw [pvV, if_neg (by omega)]) (by first | rw [pvI, if_neg (by omega)] | rw [pvI, if_pos (by omega)])) (by decide) (by decide)
  · refine r_iload_n (d := mX2_putValue) (pc := 7) (i := 2) (v := value) dX2_putValue_7 rfl rfl ?_
    refine r_iconst (d := mX2_putValue) (pc := 8) (n := 0) dX2_putValue_8 ?_
    refine r_sipush (d := mX2_putValue) (pc := 9) (n := 9999) dX2_putValue_9 ?_
    refine r_cSN3 (d := mX2_putValue) (pc := 12) (dj := mX5_within) dX2_putValue_12 mnRX2_97 staX5_within okX5_within (by decide) rfl (Nat.le_of_ble_eq_true rfl) (by decide) (by decide) (Fn_X5_within (k + 1) I P value 0 9999) ?_
    refine r_ifb_ne (d := mX2_putValue) (pc := 15) (tgt := 20) dX2_putValue_15 (by decide) (fun h15 => ?_) (fun h15 => ?_)
    · refine r_aload_n (d := mX2_putValue) (pc := 20) (i := 0) (v := b) dX2_putValue_20 rfl rfl ?_
      refine r_dup (d := mX2_putValue) (pc := 21) dX2_putValue_21 ?_
      refine r_getIs (d := mX2_putValue) (pc := 22) (a := b) (kd := 2) (j := 5) (x := (I b 5)) dX2_putValue_22 flRX2_27 hR.1.1 (by decide) (by decide) rfl (rfl) ?_
      refine r_iconst (d := mX2_putValue) (pc := 25) (n := 1) dX2_putValue_25 ?_
      refine r_iadd (d := mX2_putValue) (pc := 26) dX2_putValue_26 ?_
      refine r_putIs (d := mX2_putValue) (pc := 27) (a := b) (kd := 2) (j := 5) (lay0, mUp I b 5 ((I b 5) + 1), P) dX2_putValue_27 flRX2_27 hR.1.1 (by decide) (by decide) rfl rfl (Or.inl rfl) rfl ?_
      refine r_aload_n (d := mX2_putValue) (pc := 30) (i := 0) (v := b) dX2_putValue_30 rfl rfl ?_
      refine r_getRs (d := mX2_putValue) (pc := 31) (a := b) (kd := 2) (j := 8) (x := b + 2) dX2_putValue_31 flRX2_40 hR.1.1 (by decide) (by decide) rfl hR.2.1.2.1 ?_
      refine r_getRs (d := mX2_putValue) (pc := 34) (a := b + 2) (kd := 0) (j := 0) (x := b + 3) dX2_putValue_34 flRX2_111 hR.2.2.1.1 (by decide) (by decide) rfl hR.2.2.1.2.2.2.1 ?_
      refine r_iload_n (d := mX2_putValue) (pc := 37) (i := 1) (v := name) dX2_putValue_37 rfl rfl ?_
      refine r_iconst (d := mX2_putValue) (pc := 38) (n := (-1)) dX2_putValue_38 ?_
      refine r_iasts (d := mX2_putValue) (pc := 39) (a := b + 3) (lay0, mUp (mUp I b 5 ((I b 5) + 1)) (b + 3) name (-1), P) dX2_putValue_39 hR.2.2.1.2.1 (by omega) (by omega) rfl ?_
      refine r_aload_n (d := mX2_putValue) (pc := 40) (i := 0) (v := b) dX2_putValue_40 rfl rfl ?_
      refine r_iload_n (d := mX2_putValue) (pc := 41) (i := 1) (v := name) dX2_putValue_41 rfl rfl ?_
      refine r_iload_n (d := mX2_putValue) (pc := 42) (i := 2) (v := value) dX2_putValue_42 rfl rfl ?_
      refine r_aload_n (d := mX2_putValue) (pc := 43) (i := 0) (v := b) dX2_putValue_43 rfl rfl ?_
      refine r_getIs (d := mX2_putValue) (pc := 44) (a := b) (kd := 2) (j := 1) (x := (I b 1)) dX2_putValue_44 flRX2_15 hR.1.1 (by decide) (by decide) rfl (by simp [mUp, cpy, fset]) ?_
      refine r_iconst (d := mX2_putValue) (pc := 47) (n := (-1)) dX2_putValue_47 ?_
      refine r_iconst (d := mX2_putValue) (pc := 48) (n := (-1)) dX2_putValue_48 ?_
      refine r_cV5 (d := mX2_putValue) (pc := 49) (dj := mX2_seat) (a := b) (kd := 2) dX2_putValue_49 mlRX2_114 inX2_seat selX2_seat rfl hR.1.1 (by decide) okX2_seat (by decide) rfl (Nat.le_of_ble_eq_true rfl) (by decide) (by decide) (Fn_X2_seat k (mUp (mUp I b 5 ((I b 5) + 1)) (b + 3) name (-1)) P b hR n (by simp [mUp, fset, hn]) hn6 mc (by simp [mUp, fset, hm]) hm3 nc (by simp [mUp, fset, hc]) hc7 (by simp [mUp, fset]; unfold mI; omega) name value (I b 1) (-1) (-1) (by omega) (by omega)) ?_
      exact r_iret (d := mX2_putValue) (pc := 52) dX2_putValue_52 rfl (rtI (by rw [pvV, if_pos (by omega)]) (by first | rw [pvI, if_neg (by omega)] | rw [pvI, if_pos (by omega)])) (by decide) (by decide)
    · refine r_iconst (d := mX2_putValue) (pc := 18) (n := (-1)) dX2_putValue_18 ?_
      exact r_iret (d := mX2_putValue) (pc := 19) dX2_putValue_19 rfl (rtI (by rw [pvV, if_neg (by omega)]) (by first | rw [pvI, if_neg (by omega)] | rw [pvI, if_pos (by omega)])) (by decide) (by decide)
set_option maxRecDepth 20000 in
set_option maxHeartbeats 4000000 in
theorem Fn_X2_copyName (k : Nat) (I : mIt) (P : mPt) (b : Nat) (hR : isRm P b) (n : Nat) (hn : I (b + 9) 0 = n) (hn6 : n ≤ 6) (mc : Nat) (hm : I b 6 = mc) (hm3 : mc ≤ 3) (nc : Nat) (hc : I b 0 = nc) (hc7 : nc ≤ 7) (hB : Bd I b) (hB3 : I b 3 ≤ 1999999990) (hB4 : I b 4 ≤ 1999999990) (hB5 : I b 5 ≤ 1999999990) (name frm : Int) : WP (k + 3) mX2_copyName none (0, 0) (Rt (some (.inl (cnV I b n mc nc name frm))) (lay0, cnI I b n mc nc name frm, P)) 0 [(0, .inr (some b)), (1, .inl name), (2, .inl frm)] [] (lay0, I, P) := by
  unfold Bd at hB
  refine r_iload_n (d := mX2_copyName) (pc := 0) (i := 1) (v := name) dX2_copyName_0 rfl rfl ?_
  refine r_cSN1 (d := mX2_copyName) (pc := 1) (dj := mX5_isName) dX2_copyName_1 mnRX2_107 staX5_isName okX5_isName (by decide) rfl (Nat.le_of_ble_eq_true rfl) (by decide) (by decide) (Fn_X5_isName (k + 1) I P name) ?_
  refine r_ifb_eq (d := mX2_copyName) (pc := 4) (tgt := 19) dX2_copyName_4 (by decide) (fun h4 => ?_) (fun h4 => ?_)
  · refine r_iconst (d := mX2_copyName) (pc := 19) (n := (-1)) dX2_copyName_19 ?_
    exact r_iret (d := mX2_copyName) (pc := 20) dX2_copyName_20 rfl (rtI (by rw [cnV, if_pos (by omega)]) (by first | rw [cnI, if_pos (by omega)] | rw [cnI, if_neg (by omega), if_neg h38] | rw [cnI, if_neg (by omega), if_pos h38])) (by decide) (by decide)
  · refine r_iload_n (d := mX2_copyName) (pc := 7) (i := 2) (v := frm) dX2_copyName_7 rfl rfl ?_
    refine r_cSN1 (d := mX2_copyName) (pc := 8) (dj := mX5_isName) dX2_copyName_8 mnRX2_107 staX5_isName okX5_isName (by decide) rfl (Nat.le_of_ble_eq_true rfl) (by decide) (by decide) (Fn_X5_isName (k + 1) I P frm) ?_
    refine r_ifb_eq (d := mX2_copyName) (pc := 11) (tgt := 19) dX2_copyName_11 (by decide) (fun h11 => ?_) (fun h11 => ?_)
    · refine r_iconst (d := mX2_copyName) (pc := 19) (n := (-1)) dX2_copyName_19 ?_
      exact r_iret (d := mX2_copyName) (pc := 20) dX2_copyName_20 rfl (rtI (by rw [cnV, if_pos (by omega)]) (by first | rw [cnI, if_pos (by omega)] | rw [cnI, if_neg (by omega), if_neg h38] | rw [cnI, if_neg (by omega), if_pos h38])) (by decide) (by decide)
    · refine r_iload_n (d := mX2_copyName) (pc := 14) (i := 1) (v := name) dX2_copyName_14 rfl rfl ?_
      refine r_iload_n (d := mX2_copyName) (pc := 15) (i := 2) (v := frm) dX2_copyName_15 rfl rfl ?_
      refine r_icmp_ne (d := mX2_copyName) (pc := 16) (tgt := 21) dX2_copyName_16 (by decide) (fun h16 => ?_) (fun h16 => ?_)
      · refine r_aload_n (d := mX2_copyName) (pc := 21) (i := 0) (v := b) dX2_copyName_21 rfl rfl ?_
        refine r_dup (d := mX2_copyName) (pc := 22) dX2_copyName_22 ?_
        refine r_getIs (d := mX2_copyName) (pc := 23) (a := b) (kd := 2) (j := 5) (x := (I b 5)) dX2_copyName_23 flRX2_27 hR.1.1 (by decide) (by decide) rfl (rfl) ?_
        refine r_iconst (d := mX2_copyName) (pc := 26) (n := 1) dX2_copyName_26 ?_
        refine r_iadd (d := mX2_copyName) (pc := 27) dX2_copyName_27 ?_
        refine r_putIs (d := mX2_copyName) (pc := 28) (a := b) (kd := 2) (j := 5) (lay0, mUp I b 5 ((I b 5) + 1), P) dX2_copyName_28 flRX2_27 hR.1.1 (by decide) (by decide) rfl rfl (Or.inl rfl) rfl ?_
        refine r_aload_n (d := mX2_copyName) (pc := 31) (i := 0) (v := b) dX2_copyName_31 rfl rfl ?_
        refine r_iload_n (d := mX2_copyName) (pc := 32) (i := 2) (v := frm) dX2_copyName_32 rfl rfl ?_
        refine r_iload_n (d := mX2_copyName) (pc := 33) (i := 2) (v := frm) dX2_copyName_33 rfl rfl ?_
        refine r_iload_n (d := mX2_copyName) (pc := 34) (i := 2) (v := frm) dX2_copyName_34 rfl rfl ?_
        refine r_cV3 (d := mX2_copyName) (pc := 35) (dj := mX2_findSeat) (a := b) (kd := 2) dX2_copyName_35 mlRX2_118 inX2_findSeat selX2_findSeat rfl hR.1.1 (by decide) okX2_findSeat (by decide) rfl (Nat.le_of_ble_eq_true rfl) (by decide) (by decide) (Fn_X2_findSeat k (mUp I b 5 ((I b 5) + 1)) P b hR n (by simp [mUp, fset, hn]) hn6 mc (by simp [mUp, fset, hm]) hm3 nc (by simp [mUp, fset, hc]) hc7 (by simp [mUp, fset]; unfold mI; omega) (by simp [mUp, fset]; unfold mI; omega) (by simp [mUp, fset]; unfold mI; omega) frm frm frm (by omega) (by omega)) ?_
        change WP _ _ _ _ _ _ _ [.inl (bI (cnB I b n mc nc frm = true))] (lay0, cpI1 I b n mc nc frm, P)
        refine r_ifb_ne (d := mX2_copyName) (pc := 38) (tgt := 44) dX2_copyName_38 (by decide) (fun h38 => ?_) (fun h38 => ?_)
        · refine r_aload_n (d := mX2_copyName) (pc := 44) (i := 0) (v := b) dX2_copyName_44 rfl rfl ?_
          refine r_getRs (d := mX2_copyName) (pc := 45) (a := b) (kd := 2) (j := 8) (x := b + 2) dX2_copyName_45 flRX2_40 hR.1.1 (by decide) (by decide) rfl hR.2.1.2.1 ?_
          refine r_getRs (d := mX2_copyName) (pc := 48) (a := b + 2) (kd := 0) (j := 0) (x := b + 3) dX2_copyName_48 flRX2_111 hR.2.2.1.1 (by decide) (by decide) rfl hR.2.2.1.2.2.2.1 ?_
          refine r_iload_n (d := mX2_copyName) (pc := 51) (i := 2) (v := frm) dX2_copyName_51 rfl rfl ?_
          refine r_ialds (d := mX2_copyName) (pc := 52) (a := b + 3) (x := (cpI1 I b n mc nc frm (b + 3) frm)) dX2_copyName_52 hR.2.2.1.2.1 (by omega) (by omega) (rfl) ?_
          refine r_istore_n (d := mX2_copyName) (pc := 53) (i := 3) (lv' := [(0, .inr (some b)), (1, .inl name), (2, .inl frm), (3, .inl (cpI1 I b n mc nc frm (b + 3) frm))]) dX2_copyName_53 rfl (by decide) rfl rfl ?_
          refine r_aload_n (d := mX2_copyName) (pc := 54) (i := 0) (v := b) dX2_copyName_54 rfl rfl ?_
          refine r_getRs (d := mX2_copyName) (pc := 55) (a := b) (kd := 2) (j := 8) (x := b + 2) dX2_copyName_55 flRX2_40 hR.1.1 (by decide) (by decide) rfl hR.2.1.2.1 ?_
          refine r_getRs (d := mX2_copyName) (pc := 58) (a := b + 2) (kd := 0) (j := 0) (x := b + 3) dX2_copyName_58 flRX2_111 hR.2.2.1.1 (by decide) (by decide) rfl hR.2.2.1.2.2.2.1 ?_
          refine r_iload_n (d := mX2_copyName) (pc := 61) (i := 1) (v := name) dX2_copyName_61 rfl rfl ?_
          refine r_iload_n (d := mX2_copyName) (pc := 62) (i := 3) (v := (cpI1 I b n mc nc frm (b + 3) frm)) dX2_copyName_62 rfl rfl ?_
          refine r_iasts (d := mX2_copyName) (pc := 63) (a := b + 3) (lay0, mUp (cpI1 I b n mc nc frm) (b + 3) name (cpI1 I b n mc nc frm (b + 3) frm), P) dX2_copyName_63 hR.2.2.1.2.1 (by omega) (by omega) rfl ?_
          refine r_aload_n (d := mX2_copyName) (pc := 64) (i := 0) (v := b) dX2_copyName_64 rfl rfl ?_
          refine r_getRs (d := mX2_copyName) (pc := 65) (a := b) (kd := 2) (j := 9) (x := b + 5) dX2_copyName_65 flRX2_47 hR.1.1 (by decide) (by decide) rfl hR.2.1.2.2.1 ?_
          refine r_iload_n (d := mX2_copyName) (pc := 68) (i := 3) (v := (cpI1 I b n mc nc frm (b + 3) frm)) dX2_copyName_68 rfl rfl ?_
          refine r_aload_n (d := mX2_copyName) (pc := 69) (i := 0) (v := b) dX2_copyName_69 rfl rfl ?_
          refine r_getIs (d := mX2_copyName) (pc := 70) (a := b) (kd := 2) (j := 5) (x := (I b 5 + 1)) dX2_copyName_70 flRX2_27 hR.1.1 (by decide) (by decide) rfl (by simp [mUp, cpI1, fsI_b, fset]) ?_
          refine r_cV2 (d := mX2_copyName) (pc := 73) (dj := mX4_use) (a := b + 5) (kd := 4) dX2_copyName_73 mlRX2_121 inX4_use selX4_use rfl hR.2.2.2.1.1 (by decide) okX4_use (by decide) rfl (Nat.le_of_ble_eq_true rfl) (by decide) (by decide) (Fn_X4_use (k + 2) (mUp (cpI1 I b n mc nc frm) (b + 3) name (cpI1 I b n mc nc frm (b + 3) frm)) P (b + 5) (b + 6) (b + 7) (b + 8) hR.2.2.2.1  (cpI1 I b n mc nc frm (b + 3) frm) (I b 5 + 1)) ?_
          refine r_iload_n (d := mX2_copyName) (pc := 76) (i := 3) (v := (cpI1 I b n mc nc frm (b + 3) frm)) dX2_copyName_76 rfl rfl ?_
          exact r_iret (d := mX2_copyName) (pc := 77) dX2_copyName_77 rfl (rtI (by rw [cnV, if_neg (by omega), if_pos h38]) (by first | rw [cnI, if_pos (by omega)] | rw [cnI, if_neg (by omega), if_neg h38] | rw [cnI, if_neg (by omega), if_pos h38])) (by decide) (by decide)
        · refine r_bipush (d := mX2_copyName) (pc := 41) (n := (-2)) dX2_copyName_41 ?_
          exact r_iret (d := mX2_copyName) (pc := 43) dX2_copyName_43 rfl (rtI (by rw [cnV, if_neg (by omega), if_neg h38]) (by first | rw [cnI, if_pos (by omega)] | rw [cnI, if_neg (by omega), if_neg h38] | rw [cnI, if_neg (by omega), if_pos h38])) (by decide) (by decide)
      · refine r_iconst (d := mX2_copyName) (pc := 19) (n := (-1)) dX2_copyName_19 ?_
        exact r_iret (d := mX2_copyName) (pc := 20) dX2_copyName_20 rfl (rtI (by rw [cnV, if_pos (by omega)]) (by first | rw [cnI, if_pos (by omega)] | rw [cnI, if_neg (by omega), if_neg h38] | rw [cnI, if_neg (by omega), if_pos h38])) (by decide) (by decide)
