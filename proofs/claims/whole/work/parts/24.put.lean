/-! ===== the model: begin, put, copy ===== -/
theorem chI_0 (I : mIt) (f : Int → Int) : chI I f = arS (mdB I (chP (I 155 5) (I 155 4) (I 157) f) (chQ (I 155 5) (I 155 4)) (I 159) (I 158)) 156 (I 156) := by
  rw [← chI_md, mdB_self, arS_self]
def bgI (I : mIt) (c : Int) : mIt := if 3 ≤ c ∧ c ≤ 7 then arS (mdB I (chP (I 155 5) (I 155 4) (I 157) (I 156)) (chQ (I 155 5) (I 155 4)) (I 159) (I 158)) 156 (clS (I 156) c) else I
def pmG (s : Int → Int) (n m nc : Nat) (name : Int) : Int → Int := guM (fset s 7 (s 7 + 1)) n m nc name
def pmC (s : Int → Int) (n m nc : Nat) (name : Int) : Int := cfV (pmG s n m nc name) n m nc (-1) (-1)
def pmX (s : Int → Int) (n m nc : Nat) (name : Int) : Int → Int := getS (pmG s n m nc name) n m nc name (-1) (-1)
def pmV (s : Int → Int) (n m nc : Nat) (name v : Int) : Int := if ¬ ((0 ≤ name ∧ name ≤ 7) ∧ (0 ≤ v ∧ v ≤ 9999)) then -1 else if pmC s n m nc name < 0 then -2 else pmC s n m nc name
def tr1 (I : mIt) : Int → Int := cpF (I 159) (I 156)
def pmI (I : mIt) (n m nc : Nat) (name v : Int) : mIt := if ¬ ((0 ≤ name ∧ name ≤ 7) ∧ (0 ≤ v ∧ v ≤ 9999)) then I else if pmC (I 156) n m nc name < 0 then arS (mdB I (I 157) (I 155 4) (tr1 I) (I 158)) 156 (cpF (pmX (I 156) n m nc name) (tr1 I)) else arS (mdB I (chP (I 155 5) (I 155 4) (I 157) (tr1 I)) (chQ (I 155 5) (I 155 4)) (tr1 I) (I 158)) 156 (ikS (pmX (I 156) n m nc name) (pmC (I 156) n m nc name) v)
def cmS (s : Int → Int) (n m nc : Nat) (frm : Int) : Int → Int := siS (fset s 7 (s 7 + 1)) n m nc frm (-1) (-1)
def cmB (s : Int → Int) (n m nc : Nat) (frm : Int) : Bool := siB (fset s 7 (s 7 + 1)) n m nc frm (-1) (-1)
def cmC (s : Int → Int) (n m nc : Nat) (frm : Int) : Int := cmS s n m nc frm (12 + frm)
def cmX (s : Int → Int) (n m nc : Nat) (name frm : Int) : Int → Int := fset (fset (guM (cmS s n m nc frm) n m nc name) (12 + name) (cmC s n m nc frm)) (28 + 5 * cmC s n m nc frm + 4) (s 7 + 1)
def cmV (s : Int → Int) (n m nc : Nat) (name frm : Int) : Int := if ¬ ((0 ≤ name ∧ name ≤ 7) ∧ (0 ≤ frm ∧ frm ≤ 7) ∧ name ≠ frm) then -1 else if cmB s n m nc frm = true then cmC s n m nc frm else -2
def cmI (I : mIt) (n m nc : Nat) (name frm : Int) : mIt := if ¬ ((0 ≤ name ∧ name ≤ 7) ∧ (0 ≤ frm ∧ frm ≤ 7) ∧ name ≠ frm) then I else if cmB (I 156) n m nc frm = true then arS (mdB I (chP (I 155 5) (I 155 4) (I 157) (tr1 I)) (chQ (I 155 5) (I 155 4)) (tr1 I) (I 158)) 156 (cmX (I 156) n m nc name frm) else arS (mdB I (I 157) (I 155 4) (tr1 I) (I 158)) 156 (cpF (cmS (I 156) n m nc frm) (tr1 I))
theorem siS_seat (s : Int → Int) (n m nc : Nat) (name one other : Int) (h : siB s n m nc name one other = true) (h0 : 0 ≤ name) (h8 : name < 8) (hs : s (12 + name) < 7) (hnc : nc ≤ 7) : 0 ≤ siS s n m nc name one other (12 + name) ∧ siS s n m nc name one other (12 + name) < 7 := by
  have hc := cfV_rng s n m nc one other
  simp only [siB, decide_eq_true_eq] at h
  unfold siS
  by_cases h1 : 0 ≤ s (12 + name)
  · rw [if_pos h1]; omega
  · rw [if_neg h1, if_neg (by omega), getS, if_neg (by omega)]
    unfold stX gtS
    rw [fset_ne _ _ (by omega), fset_ne _ _ (by omega), fset_ne _ _ (by omega), fset_ne _ _ (by omega), fset_ne _ _ (by omega), fset_ne _ _ (by omega), fset_ne _ _ (by omega), fset_ne _ _ (by omega), fset_ne _ _ (by omega), fset_at]
    omega
set_option maxRecDepth 20000 in
set_option maxHeartbeats 4000000 in
theorem Fn_X6_begin (k : Nat) (I : mIt) (P : mPt) (hM : isMd P) (hq : 0 ≤ I 155 4 ∧ I 155 4 ≤ 4) (c : Int) : WP (k + 2) mX6_begin none (0, 0) (Rt (some (.inl (if 3 ≤ c ∧ c ≤ 7 then I 156 0 else -1))) (lay0, bgI I c, P)) 0 [(0, .inr (some 155)), (1, .inl c)] [] (lay0, I, P) := by
  refine r_iload_n (d := mX6_begin) (pc := 0) (i := 1) (v := c) dX6_begin_0 rfl rfl ?_
  refine r_iconst (d := mX6_begin) (pc := 1) (n := 3) dX6_begin_1 ?_
  refine r_bipush (d := mX6_begin) (pc := 2) (n := 7) dX6_begin_2 ?_
  refine r_cS3 (d := mX6_begin) (pc := 4) (dj := mX6_in) dX6_begin_4 mlRX6_43 staX6_in okX6_in (by decide) rfl (Nat.le_of_ble_eq_true rfl) (by decide) (by decide) (Fn_X6_in (k + 1) I P   c 3 7) ?_
  refine r_ifb_ne (d := mX6_begin) (pc := 7) (tgt := 12) dX6_begin_7 (by decide) (fun h7 => ?_) (fun h7 => ?_)
  · refine r_aload_n (d := mX6_begin) (pc := 12) (i := 0) (v := 155) dX6_begin_12 rfl rfl ?_
    refine r_aload_n (d := mX6_begin) (pc := 13) (i := 0) (v := 155) dX6_begin_13 rfl rfl ?_
    refine r_getRs (d := mX6_begin) (pc := 14) (a := 155) (kd := 6) (j := 0) (x := 156) dX6_begin_14 flRX6_7 ly155 (by decide) (by decide) rfl hM.1 ?_
    refine r_cV1 (d := mX6_begin) (pc := 17) (dj := mX6_changes) (a := 155) (kd := 6) dX6_begin_17 mlRX6_81 inX6_changes selX6_changes rfl ly155 (by decide) okX6_changes (by decide) rfl (Nat.le_of_ble_eq_true rfl) (by decide) (by decide) (Fn_X6_changes (k + 1) I P hM hq 156 ly156 (by decide) (by decide)) ?_
    refine wpE (lv' := [(0, .inr (some 155)), (1, .inl c)]) (st' := []) (M' := (lay0, arS (mdB I (chP (I 155 5) (I 155 4) (I 157) (I 156)) (chQ (I 155 5) (I 155 4)) (I 159) (I 158)) 156 (I 156), P)) rfl rfl (by refine memE ?_; exact chI_0 _ _) ?_
    refine r_aload_n (d := mX6_begin) (pc := 20) (i := 0) (v := 155) dX6_begin_20 rfl rfl ?_
    refine r_getRs (d := mX6_begin) (pc := 21) (a := 155) (kd := 6) (j := 0) (x := 156) dX6_begin_21 flRX6_7 ly155 (by decide) (by decide) rfl hM.1 ?_
    refine r_iconst (d := mX6_begin) (pc := 24) (n := 0) dX6_begin_24 ?_
    refine r_ialds (d := mX6_begin) (pc := 25) (a := 156) (x := ((I 156) 0)) dX6_begin_25 ly156 (by decide) (by decide) (rfl) ?_
    refine r_istore_n (d := mX6_begin) (pc := 26) (i := 2) (lv' := [(0, .inr (some 155)), (1, .inl c), (2, .inl ((I 156) 0))]) dX6_begin_26 rfl (by decide) rfl rfl ?_
    refine r_aload_n (d := mX6_begin) (pc := 27) (i := 0) (v := 155) dX6_begin_27 rfl rfl ?_
    refine r_iload_n (d := mX6_begin) (pc := 28) (i := 1) (v := c) dX6_begin_28 rfl rfl ?_
    refine r_cV1 (d := mX6_begin) (pc := 29) (dj := mX6_clears) (a := 155) (kd := 6) dX6_begin_29 mlRX6_31 inX6_clears selX6_clears rfl ly155 (by decide) okX6_clears (by decide) rfl (Nat.le_of_ble_eq_true rfl) (by decide) (by decide) (Fn_X6_clears k (arS (mdB I (chP (I 155 5) (I 155 4) (I 157) (I 156)) (chQ (I 155 5) (I 155 4)) (I 159) (I 158)) 156 (I 156)) P hM  c) ?_
    refine wpE (lv' := [(0, .inr (some 155)), (1, .inl c), (2, .inl ((I 156) 0))]) (st' := []) (M' := (lay0, arS (mdB I (chP (I 155 5) (I 155 4) (I 157) (I 156)) (chQ (I 155 5) (I 155 4)) (I 159) (I 158)) 156 (clS (I 156) c), P)) rfl rfl (memE (arS_arS _ _ _ _)) ?_
    refine r_iload_n (d := mX6_begin) (pc := 32) (i := 2) (v := ((I 156) 0)) dX6_begin_32 rfl rfl ?_
    exact r_iret (d := mX6_begin) (pc := 33) dX6_begin_33 rfl (rtI (by first | rw [if_pos (by omega)] | rw [if_neg (by omega)]) (by refine memE ?_; first | rw [bgI, if_pos (by omega)] | rw [bgI, if_neg (by omega)])) (by decide) (by decide)
  · refine r_iconst (d := mX6_begin) (pc := 10) (n := (-1)) dX6_begin_10 ?_
    exact r_iret (d := mX6_begin) (pc := 11) dX6_begin_11 rfl (rtI (by first | rw [if_pos (by omega)] | rw [if_neg (by omega)]) (by refine memE ?_; first | rw [bgI, if_pos (by omega)] | rw [bgI, if_neg (by omega)])) (by decide) (by decide)
set_option maxRecDepth 20000 in
set_option maxHeartbeats 4000000 in
theorem Fn_X6_put (k : Nat) (I : mIt) (P : mPt) (hM : isMd P) (n : Nat) (hn : I 156 3 = n) (hn6 : n ≤ 6) (m : Nat) (hm : I 156 2 = m) (hm3 : m ≤ 3) (nc : Nat) (hc : I 156 0 = nc) (hc7 : nc ≤ 7) (hq : 0 ≤ I 155 4 ∧ I 155 4 ≤ 4) (hs5 : 0 ≤ I 156 5 ∧ I 156 5 ≤ 2000000000) (hs6 : 0 ≤ I 156 6 ∧ I 156 6 ≤ 2000000000) (hs1 : 0 ≤ I 156 1 ∧ I 156 1 ≤ 60000) (hs10 : 0 ≤ I 156 10 ∧ I 156 10 ≤ 9) (hs7 : 0 ≤ I 156 7 ∧ I 156 7 ≤ 2000000000) (name v : Int) : WP (k + 5) mX6_put none (0, 0) (Rt (some (.inl (pmV (I 156) n m nc name v))) (lay0, pmI I n m nc name v, P)) 0 [(0, .inr (some 155)), (1, .inl name), (2, .inl v)] [] (lay0, I, P) := by
  refine r_iload_n (d := mX6_put) (pc := 0) (i := 1) (v := name) dX6_put_0 rfl rfl ?_
  refine r_cS1 (d := mX6_put) (pc := 1) (dj := mX6_isName) dX6_put_1 mlRX6_85 staX6_isName okX6_isName (by decide) rfl (Nat.le_of_ble_eq_true rfl) (by decide) (by decide) (Fn_X6_isName (k + 3) I P   name) ?_
  refine r_ifb_eq (d := mX6_put) (pc := 4) (tgt := 18) dX6_put_4 (by decide) (fun h4 => ?_) (fun h4 => ?_)
  · refine r_iconst (d := mX6_put) (pc := 18) (n := (-1)) dX6_put_18 ?_
    exact r_iret (d := mX6_put) (pc := 19) dX6_put_19 rfl (rtI (by rw [pmV, if_pos (by omega)]) (by refine memE ?_; rw [pmI, if_pos (by omega)])) (by decide) (by decide)
  · refine r_iload_n (d := mX6_put) (pc := 7) (i := 2) (v := v) dX6_put_7 rfl rfl ?_
    refine r_iconst (d := mX6_put) (pc := 8) (n := 0) dX6_put_8 ?_
    refine r_sipush (d := mX6_put) (pc := 9) (n := 9999) dX6_put_9 ?_
    refine r_cS3 (d := mX6_put) (pc := 12) (dj := mX6_in) dX6_put_12 mlRX6_43 staX6_in okX6_in (by decide) rfl (Nat.le_of_ble_eq_true rfl) (by decide) (by decide) (Fn_X6_in (k + 4) I P   v 0 9999) ?_
    refine r_ifb_ne (d := mX6_put) (pc := 15) (tgt := 20) dX6_put_15 (by decide) (fun h15 => ?_) (fun h15 => ?_)
    · refine r_aload_n (d := mX6_put) (pc := 20) (i := 0) (v := 155) dX6_put_20 rfl rfl ?_
      refine r_getRs (d := mX6_put) (pc := 21) (a := 155) (kd := 6) (j := 0) (x := 156) dX6_put_21 flRX6_7 ly155 (by decide) (by decide) rfl hM.1 ?_
      refine r_aload_n (d := mX6_put) (pc := 24) (i := 0) (v := 155) dX6_put_24 rfl rfl ?_
      refine r_getRs (d := mX6_put) (pc := 25) (a := 155) (kd := 6) (j := 3) (x := 159) dX6_put_25 flRX6_19 ly155 (by decide) (by decide) rfl hM.2.2.2.1 ?_
      refine r_cS2 (d := mX6_put) (pc := 28) (dj := mX6_copies) dX6_put_28 mlRX6_88 staX6_copies okX6_copies (by decide) rfl (Nat.le_of_ble_eq_true rfl) (by decide) (by decide) (Fn_X6_copies (k + 4) I P 156 159 ly156 ly159 (by decide)) ?_
      refine wpE (lv' := [(0, .inr (some 155)), (1, .inl name), (2, .inl v)]) (st' := []) (M' := (lay0, arS (mdB I (I 157) (I 155 4) (cpF (I 159) (I 156)) (I 158)) 156 (I 156), P)) rfl rfl (by refine memE ?_; exact cp159_0 I) ?_
      refine r_aload_n (d := mX6_put) (pc := 31) (i := 0) (v := 155) dX6_put_31 rfl rfl ?_
      refine r_getRs (d := mX6_put) (pc := 32) (a := 155) (kd := 6) (j := 0) (x := 156) dX6_put_32 flRX6_7 ly155 (by decide) (by decide) rfl hM.1 ?_
      refine r_bipush (d := mX6_put) (pc := 35) (n := 7) dX6_put_35 ?_
      refine r_dup2 (d := mX6_put) (pc := 37) dX6_put_37 ?_
      refine r_ialds (d := mX6_put) (pc := 38) (a := 156) (x := ((I 156) 7)) dX6_put_38 ly156 (by decide) (by decide) (rfl) ?_
      refine r_iconst (d := mX6_put) (pc := 39) (n := 1) dX6_put_39 ?_
      refine r_iadd (d := mX6_put) (pc := 40) dX6_put_40 ?_
      refine r_iasts (d := mX6_put) (pc := 41) (a := 156) (lay0, arS (mdB I (I 157) (I 155 4) (cpF (I 159) (I 156)) (I 158)) 156 (fset (I 156) 7 (((I 156) 7) + 1)), P) dX6_put_41 ly156 (by decide) (by decide) (memE (arS_up _ _ _ _ _)) ?_
      refine r_aload_n (d := mX6_put) (pc := 42) (i := 0) (v := 155) dX6_put_42 rfl rfl ?_
      refine r_iload_n (d := mX6_put) (pc := 43) (i := 1) (v := name) dX6_put_43 rfl rfl ?_
      refine r_cV1 (d := mX6_put) (pc := 44) (dj := mX6_givesUp) (a := 155) (kd := 6) dX6_put_44 mlRX6_92 inX6_givesUp selX6_givesUp rfl ly155 (by decide) okX6_givesUp (by decide) rfl (Nat.le_of_ble_eq_true rfl) (by decide) (by decide) (Fn_X6_givesUp (k + 1) (arS (mdB I (I 157) (I 155 4) (cpF (I 159) (I 156)) (I 158)) 156 (fset (I 156) 7 (((I 156) 7) + 1))) P hM n ((show (fset (I 156) 7 (((I 156) 7) + 1)) 3 = I 156 3 by rw [fset_ne _ _ (by omega)]).trans hn) hn6 m ((show (fset (I 156) 7 (((I 156) 7) + 1)) 2 = I 156 2 by rw [fset_ne _ _ (by omega)]).trans hm) hm3 nc ((show (fset (I 156) 7 (((I 156) 7) + 1)) 0 = I 156 0 by rw [fset_ne _ _ (by omega)]).trans hc) hc7 name (by omega) (by omega)) ?_
      refine wpE (lv' := [(0, .inr (some 155)), (1, .inl name), (2, .inl v)]) (st' := []) (M' := (lay0, arS (mdB I (I 157) (I 155 4) (cpF (I 159) (I 156)) (I 158)) 156 (guM (fset (I 156) 7 (((I 156) 7) + 1)) n m nc name), P)) rfl rfl (memE (arS_arS _ _ _ _)) ?_
      refine r_aload_n (d := mX6_put) (pc := 47) (i := 0) (v := 155) dX6_put_47 rfl rfl ?_
      refine r_iload_n (d := mX6_put) (pc := 48) (i := 1) (v := name) dX6_put_48 rfl rfl ?_
      refine r_iconst (d := mX6_put) (pc := 49) (n := (-1)) dX6_put_49 ?_
      refine r_iconst (d := mX6_put) (pc := 50) (n := (-1)) dX6_put_50 ?_
      refine r_cV3 (d := mX6_put) (pc := 51) (dj := mX6_gets) (a := 155) (kd := 6) dX6_put_51 mlRX6_77 inX6_gets selX6_gets rfl ly155 (by decide) okX6_gets (by decide) rfl (Nat.le_of_ble_eq_true rfl) (by decide) (by decide) (Fn_X6_gets k (arS (mdB I (I 157) (I 155 4) (cpF (I 159) (I 156)) (I 158)) 156 (guM (fset (I 156) 7 (((I 156) 7) + 1)) n m nc name)) P hM n ((show (guM (fset (I 156) 7 (((I 156) 7) + 1)) n m nc name) 3 = I 156 3 by rw [guM_lo _ _ _ _ _ (by omega) (by omega), fset_ne _ _ (by omega)]).trans hn) hn6 m ((show (guM (fset (I 156) 7 (((I 156) 7) + 1)) n m nc name) 2 = I 156 2 by rw [guM_lo _ _ _ _ _ (by omega) (by omega), fset_ne _ _ (by omega)]).trans hm) hm3 nc ((show (guM (fset (I 156) 7 (((I 156) 7) + 1)) n m nc name) 0 = I 156 0 by rw [guM_lo _ _ _ _ _ (by omega) (by omega), fset_ne _ _ (by omega)]).trans hc) hc7 (by have e9 := (show (guM (fset (I 156) 7 (((I 156) 7) + 1)) n m nc name) 5 = I 156 5 by rw [guM_lo _ _ _ _ _ (by omega) (by omega), fset_ne _ _ (by omega)]); show 0 ≤ (guM (fset (I 156) 7 (((I 156) 7) + 1)) n m nc name) 5 ∧ (guM (fset (I 156) 7 (((I 156) 7) + 1)) n m nc name) 5 ≤ _; omega) name (by omega) (by omega) (-1) (-1) (by omega) (by omega) (by omega) (by omega) (by omega)) ?_
      refine wpE (lv' := [(0, .inr (some 155)), (1, .inl name), (2, .inl v)]) (st' := [.inl (cfV (guM (fset (I 156) 7 (((I 156) 7) + 1)) n m nc name) n m nc (-1) (-1))]) (M' := (lay0, arS (mdB I (I 157) (I 155 4) (cpF (I 159) (I 156)) (I 158)) 156 (getS (guM (fset (I 156) 7 (((I 156) 7) + 1)) n m nc name) n m nc name (-1) (-1)), P)) rfl rfl (memE (arS_arS _ _ _ _)) ?_
      change WP _ _ _ _ _ _ _ [.inl (pmC (I 156) n m nc name)] (lay0, arS (mdB I (I 157) (I 155 4) (tr1 I) (I 158)) 156 (pmX (I 156) n m nc name), P)
      refine r_istore_n (d := mX6_put) (pc := 54) (i := 3) (lv' := [(0, .inr (some 155)), (1, .inl name), (2, .inl v), (3, .inl (pmC (I 156) n m nc name))]) dX6_put_54 rfl (by decide) rfl rfl ?_
      have hcv := cfV_rng (pmG (I 156) n m nc name) n m nc (-1) (-1)
      change pmC (I 156) n m nc name = -4 ∨ (0 ≤ pmC (I 156) n m nc name ∧ pmC (I 156) n m nc name < nc) at hcv
      refine r_iload_n (d := mX6_put) (pc := 55) (i := 3) (v := pmC (I 156) n m nc name) dX6_put_55 rfl rfl ?_
      refine r_if_ge (d := mX6_put) (pc := 56) (tgt := 73) dX6_put_56 (by decide) (fun h56 => ?_) (fun h56 => ?_)
      · refine r_aload_n (d := mX6_put) (pc := 73) (i := 0) (v := 155) dX6_put_73 rfl rfl ?_
        refine r_aload_n (d := mX6_put) (pc := 74) (i := 0) (v := 155) dX6_put_74 rfl rfl ?_
        refine r_getRs (d := mX6_put) (pc := 75) (a := 155) (kd := 6) (j := 3) (x := 159) dX6_put_75 flRX6_19 ly155 (by decide) (by decide) rfl hM.2.2.2.1 ?_
        refine r_cV1 (d := mX6_put) (pc := 78) (dj := mX6_changes) (a := 155) (kd := 6) dX6_put_78 mlRX6_81 inX6_changes selX6_changes rfl ly155 (by decide) okX6_changes (by decide) rfl (Nat.le_of_ble_eq_true rfl) (by decide) (by decide) (Fn_X6_changes (k + 4) (arS (mdB I (I 157) (I 155 4) (tr1 I) (I 158)) 156 (pmX (I 156) n m nc name)) P hM hq 159 ly159 (by decide) (by decide)) ?_
        refine wpE (lv' := [(0, .inr (some 155)), (1, .inl name), (2, .inl v), (3, .inl (pmC (I 156) n m nc name))]) (st' := []) (M' := (lay0, arS (mdB I (chP (I 155 5) (I 155 4) (I 157) (tr1 I)) (chQ (I 155 5) (I 155 4)) (tr1 I) (I 158)) 156 (pmX (I 156) n m nc name), P)) rfl rfl (by refine memE ?_; exact chI_md _ _ _ _ _ _ _) ?_
        refine r_aload_n (d := mX6_put) (pc := 81) (i := 0) (v := 155) dX6_put_81 rfl rfl ?_
        refine r_iload_n (d := mX6_put) (pc := 82) (i := 3) (v := pmC (I 156) n m nc name) dX6_put_82 rfl rfl ?_
        refine r_iload_n (d := mX6_put) (pc := 83) (i := 2) (v := v) dX6_put_83 rfl rfl ?_
        refine r_cV2 (d := mX6_put) (pc := 84) (dj := mX6_isKnown) (a := 155) (kd := 6) dX6_put_84 mlRX6_95 inX6_isKnown selX6_isKnown rfl ly155 (by decide) okX6_isKnown (by decide) rfl (Nat.le_of_ble_eq_true rfl) (by decide) (by decide) (Fn_X6_isKnown (k + 3) (arS (mdB I (chP (I 155 5) (I 155 4) (I 157) (tr1 I)) (chQ (I 155 5) (I 155 4)) (tr1 I) (I 158)) 156 (pmX (I 156) n m nc name)) P hM (pmC (I 156) n m nc name) v (by omega) (by omega)) ?_
        refine wpE (lv' := [(0, .inr (some 155)), (1, .inl name), (2, .inl v), (3, .inl (pmC (I 156) n m nc name))]) (st' := []) (M' := (lay0, arS (mdB I (chP (I 155 5) (I 155 4) (I 157) (tr1 I)) (chQ (I 155 5) (I 155 4)) (tr1 I) (I 158)) 156 (ikS (pmX (I 156) n m nc name) (pmC (I 156) n m nc name) v), P)) rfl rfl (memE (arS_arS _ _ _ _)) ?_
        refine r_iload_n (d := mX6_put) (pc := 87) (i := 3) (v := pmC (I 156) n m nc name) dX6_put_87 rfl rfl ?_
        exact r_iret (d := mX6_put) (pc := 88) dX6_put_88 rfl (rtI (by rw [pmV, if_neg (by omega), if_neg (by omega)]) (by refine memE ?_; rw [pmI, if_neg (by omega), if_neg (by omega)])) (by decide) (by decide)
      · refine r_aload_n (d := mX6_put) (pc := 59) (i := 0) (v := 155) dX6_put_59 rfl rfl ?_
        refine r_getRs (d := mX6_put) (pc := 60) (a := 155) (kd := 6) (j := 3) (x := 159) dX6_put_60 flRX6_19 ly155 (by decide) (by decide) rfl hM.2.2.2.1 ?_
        refine r_aload_n (d := mX6_put) (pc := 63) (i := 0) (v := 155) dX6_put_63 rfl rfl ?_
        refine r_getRs (d := mX6_put) (pc := 64) (a := 155) (kd := 6) (j := 0) (x := 156) dX6_put_64 flRX6_7 ly155 (by decide) (by decide) rfl hM.1 ?_
        refine r_cS2 (d := mX6_put) (pc := 67) (dj := mX6_copies) dX6_put_67 mlRX6_88 staX6_copies okX6_copies (by decide) rfl (Nat.le_of_ble_eq_true rfl) (by decide) (by decide) (Fn_X6_copies (k + 4) (arS (mdB I (I 157) (I 155 4) (tr1 I) (I 158)) 156 (pmX (I 156) n m nc name)) P 159 156 ly159 ly156 (by decide)) ?_
        refine wpE (lv' := [(0, .inr (some 155)), (1, .inl name), (2, .inl v), (3, .inl (pmC (I 156) n m nc name))]) (st' := []) (M' := (lay0, arS (mdB I (I 157) (I 155 4) (tr1 I) (I 158)) 156 (cpF (pmX (I 156) n m nc name) (tr1 I)), P)) rfl rfl (by refine memE ?_; exact mdB_cp156 _ _ _ _ _ _ _) ?_
        refine r_bipush (d := mX6_put) (pc := 70) (n := (-2)) dX6_put_70 ?_
        exact r_iret (d := mX6_put) (pc := 72) dX6_put_72 rfl (rtI (by rw [pmV, if_neg (by omega), if_pos (by omega)]) (by refine memE ?_; rw [pmI, if_neg (by omega), if_pos (by omega)])) (by decide) (by decide)
    · refine r_iconst (d := mX6_put) (pc := 18) (n := (-1)) dX6_put_18 ?_
      exact r_iret (d := mX6_put) (pc := 19) dX6_put_19 rfl (rtI (by rw [pmV, if_pos (by omega)]) (by refine memE ?_; rw [pmI, if_pos (by omega)])) (by decide) (by decide)
set_option maxRecDepth 20000 in
set_option maxHeartbeats 4000000 in
theorem Fn_X6_copy (k : Nat) (I : mIt) (P : mPt) (hM : isMd P) (n : Nat) (hn : I 156 3 = n) (hn6 : n ≤ 6) (m : Nat) (hm : I 156 2 = m) (hm3 : m ≤ 3) (nc : Nat) (hc : I 156 0 = nc) (hc7 : nc ≤ 7) (hq : 0 ≤ I 155 4 ∧ I 155 4 ≤ 4) (hs5 : 0 ≤ I 156 5 ∧ I 156 5 ≤ 2000000000) (hs6 : 0 ≤ I 156 6 ∧ I 156 6 ≤ 2000000000) (hs1 : 0 ≤ I 156 1 ∧ I 156 1 ≤ 60000) (hs10 : 0 ≤ I 156 10 ∧ I 156 10 ≤ 9) (hs7 : 0 ≤ I 156 7 ∧ I 156 7 ≤ 2000000000) (hseat : ∀ i : Int, 12 ≤ i → i < 20 → I 156 i < 7) (name frm : Int) : WP (k + 6) mX6_copy none (0, 0) (Rt (some (.inl (cmV (I 156) n m nc name frm))) (lay0, cmI I n m nc name frm, P)) 0 [(0, .inr (some 155)), (1, .inl name), (2, .inl frm)] [] (lay0, I, P) := by
  refine r_iload_n (d := mX6_copy) (pc := 0) (i := 1) (v := name) dX6_copy_0 rfl rfl ?_
  refine r_cS1 (d := mX6_copy) (pc := 1) (dj := mX6_isName) dX6_copy_1 mlRX6_85 staX6_isName okX6_isName (by decide) rfl (Nat.le_of_ble_eq_true rfl) (by decide) (by decide) (Fn_X6_isName (k + 4) I P   name) ?_
  refine r_ifb_eq (d := mX6_copy) (pc := 4) (tgt := 19) dX6_copy_4 (by decide) (fun h4 => ?_) (fun h4 => ?_)
  · refine r_iconst (d := mX6_copy) (pc := 19) (n := (-1)) dX6_copy_19 ?_
    exact r_iret (d := mX6_copy) (pc := 20) dX6_copy_20 rfl (rtI (by rw [cmV, if_pos (by omega)]) (by refine memE ?_; rw [cmI, if_pos (by omega)])) (by decide) (by decide)
  · refine r_iload_n (d := mX6_copy) (pc := 7) (i := 2) (v := frm) dX6_copy_7 rfl rfl ?_
    refine r_cS1 (d := mX6_copy) (pc := 8) (dj := mX6_isName) dX6_copy_8 mlRX6_85 staX6_isName okX6_isName (by decide) rfl (Nat.le_of_ble_eq_true rfl) (by decide) (by decide) (Fn_X6_isName (k + 4) I P   frm) ?_
    refine r_ifb_eq (d := mX6_copy) (pc := 11) (tgt := 19) dX6_copy_11 (by decide) (fun h11 => ?_) (fun h11 => ?_)
    · refine r_iconst (d := mX6_copy) (pc := 19) (n := (-1)) dX6_copy_19 ?_
      exact r_iret (d := mX6_copy) (pc := 20) dX6_copy_20 rfl (rtI (by rw [cmV, if_pos (by omega)]) (by refine memE ?_; rw [cmI, if_pos (by omega)])) (by decide) (by decide)
    · refine r_iload_n (d := mX6_copy) (pc := 14) (i := 1) (v := name) dX6_copy_14 rfl rfl ?_
      refine r_iload_n (d := mX6_copy) (pc := 15) (i := 2) (v := frm) dX6_copy_15 rfl rfl ?_
      refine r_icmp_ne (d := mX6_copy) (pc := 16) (tgt := 21) dX6_copy_16 (by decide) (fun h16 => ?_) (fun h16 => ?_)
      · refine r_aload_n (d := mX6_copy) (pc := 21) (i := 0) (v := 155) dX6_copy_21 rfl rfl ?_
        refine r_getRs (d := mX6_copy) (pc := 22) (a := 155) (kd := 6) (j := 0) (x := 156) dX6_copy_22 flRX6_7 ly155 (by decide) (by decide) rfl hM.1 ?_
        refine r_aload_n (d := mX6_copy) (pc := 25) (i := 0) (v := 155) dX6_copy_25 rfl rfl ?_
        refine r_getRs (d := mX6_copy) (pc := 26) (a := 155) (kd := 6) (j := 3) (x := 159) dX6_copy_26 flRX6_19 ly155 (by decide) (by decide) rfl hM.2.2.2.1 ?_
        refine r_cS2 (d := mX6_copy) (pc := 29) (dj := mX6_copies) dX6_copy_29 mlRX6_88 staX6_copies okX6_copies (by decide) rfl (Nat.le_of_ble_eq_true rfl) (by decide) (by decide) (Fn_X6_copies (k + 5) I P 156 159 ly156 ly159 (by decide)) ?_
        refine wpE (lv' := [(0, .inr (some 155)), (1, .inl name), (2, .inl frm)]) (st' := []) (M' := (lay0, arS (mdB I (I 157) (I 155 4) (cpF (I 159) (I 156)) (I 158)) 156 (I 156), P)) rfl rfl (by refine memE ?_; exact cp159_0 I) ?_
        refine r_aload_n (d := mX6_copy) (pc := 32) (i := 0) (v := 155) dX6_copy_32 rfl rfl ?_
        refine r_getRs (d := mX6_copy) (pc := 33) (a := 155) (kd := 6) (j := 0) (x := 156) dX6_copy_33 flRX6_7 ly155 (by decide) (by decide) rfl hM.1 ?_
        refine r_bipush (d := mX6_copy) (pc := 36) (n := 7) dX6_copy_36 ?_
        refine r_dup2 (d := mX6_copy) (pc := 38) dX6_copy_38 ?_
        refine r_ialds (d := mX6_copy) (pc := 39) (a := 156) (x := ((I 156) 7)) dX6_copy_39 ly156 (by decide) (by decide) (rfl) ?_
        refine r_iconst (d := mX6_copy) (pc := 40) (n := 1) dX6_copy_40 ?_
        refine r_iadd (d := mX6_copy) (pc := 41) dX6_copy_41 ?_
        refine r_iasts (d := mX6_copy) (pc := 42) (a := 156) (lay0, arS (mdB I (I 157) (I 155 4) (cpF (I 159) (I 156)) (I 158)) 156 (fset (I 156) 7 (((I 156) 7) + 1)), P) dX6_copy_42 ly156 (by decide) (by decide) (memE (arS_up _ _ _ _ _)) ?_
        refine r_aload_n (d := mX6_copy) (pc := 43) (i := 0) (v := 155) dX6_copy_43 rfl rfl ?_
        refine r_iload_n (d := mX6_copy) (pc := 44) (i := 2) (v := frm) dX6_copy_44 rfl rfl ?_
        refine r_iconst (d := mX6_copy) (pc := 45) (n := (-1)) dX6_copy_45 ?_
        refine r_iconst (d := mX6_copy) (pc := 46) (n := (-1)) dX6_copy_46 ?_
        refine r_cV3 (d := mX6_copy) (pc := 47) (dj := mX6_sits) (a := 155) (kd := 6) dX6_copy_47 mlRX6_99 inX6_sits selX6_sits rfl ly155 (by decide) okX6_sits (by decide) rfl (Nat.le_of_ble_eq_true rfl) (by decide) (by decide) (Fn_X6_sits k (arS (mdB I (I 157) (I 155 4) (cpF (I 159) (I 156)) (I 158)) 156 (fset (I 156) 7 (((I 156) 7) + 1))) P hM n ((show (fset (I 156) 7 (((I 156) 7) + 1)) 3 = I 156 3 by rw [fset_ne _ _ (by omega)]).trans hn) hn6 m ((show (fset (I 156) 7 (((I 156) 7) + 1)) 2 = I 156 2 by rw [fset_ne _ _ (by omega)]).trans hm) hm3 nc ((show (fset (I 156) 7 (((I 156) 7) + 1)) 0 = I 156 0 by rw [fset_ne _ _ (by omega)]).trans hc) hc7 (by have e9 := (show (fset (I 156) 7 (((I 156) 7) + 1)) 5 = I 156 5 by rw [fset_ne _ _ (by omega)]); show 0 ≤ (fset (I 156) 7 (((I 156) 7) + 1)) 5 ∧ (fset (I 156) 7 (((I 156) 7) + 1)) 5 ≤ _; omega) (by have e9 := (show (fset (I 156) 7 (((I 156) 7) + 1)) 6 = I 156 6 by rw [fset_ne _ _ (by omega)]); show 0 ≤ (fset (I 156) 7 (((I 156) 7) + 1)) 6 ∧ (fset (I 156) 7 (((I 156) 7) + 1)) 6 ≤ _; omega) (by have e9 := (show (fset (I 156) 7 (((I 156) 7) + 1)) 1 = I 156 1 by rw [fset_ne _ _ (by omega)]); show 0 ≤ (fset (I 156) 7 (((I 156) 7) + 1)) 1 ∧ (fset (I 156) 7 (((I 156) 7) + 1)) 1 ≤ _; omega) (by have e9 := (show (fset (I 156) 7 (((I 156) 7) + 1)) 10 = I 156 10 by rw [fset_ne _ _ (by omega)]); show 0 ≤ (fset (I 156) 7 (((I 156) 7) + 1)) 10 ∧ (fset (I 156) 7 (((I 156) 7) + 1)) 10 ≤ _; omega) frm (by omega) (by omega) (-1) (-1) (by omega) (by omega) (by omega) (by omega) (by omega)) ?_
        refine wpE (lv' := [(0, .inr (some 155)), (1, .inl name), (2, .inl frm)]) (st' := [.inl (bI (siB (fset (I 156) 7 (((I 156) 7) + 1)) n m nc frm (-1) (-1) = true))]) (M' := (lay0, arS (mdB I (I 157) (I 155 4) (cpF (I 159) (I 156)) (I 158)) 156 (siS (fset (I 156) 7 (((I 156) 7) + 1)) n m nc frm (-1) (-1)), P)) rfl rfl (memE (arS_arS _ _ _ _)) ?_
        change WP _ _ _ _ _ _ _ [.inl (bI (cmB (I 156) n m nc frm = true))] (lay0, arS (mdB I (I 157) (I 155 4) (tr1 I) (I 158)) 156 (cmS (I 156) n m nc frm), P)
        refine r_ifb_ne (d := mX6_copy) (pc := 50) (tgt := 67) dX6_copy_50 (by decide) (fun h50 => ?_) (fun h50 => ?_)
        · have hcs := siS_seat (fset (I 156) 7 (I 156 7 + 1)) n m nc frm (-1) (-1) h50 (by omega) (by omega) (by rw [fset_ne _ _ (by omega)]; exact hseat _ (by omega) (by omega)) hc7
          change 0 ≤ cmC (I 156) n m nc frm ∧ cmC (I 156) n m nc frm < 7 at hcs
          refine r_aload_n (d := mX6_copy) (pc := 67) (i := 0) (v := 155) dX6_copy_67 rfl rfl ?_
          refine r_aload_n (d := mX6_copy) (pc := 68) (i := 0) (v := 155) dX6_copy_68 rfl rfl ?_
          refine r_getRs (d := mX6_copy) (pc := 69) (a := 155) (kd := 6) (j := 3) (x := 159) dX6_copy_69 flRX6_19 ly155 (by decide) (by decide) rfl hM.2.2.2.1 ?_
          refine r_cV1 (d := mX6_copy) (pc := 72) (dj := mX6_changes) (a := 155) (kd := 6) dX6_copy_72 mlRX6_81 inX6_changes selX6_changes rfl ly155 (by decide) okX6_changes (by decide) rfl (Nat.le_of_ble_eq_true rfl) (by decide) (by decide) (Fn_X6_changes (k + 5) (arS (mdB I (I 157) (I 155 4) (tr1 I) (I 158)) 156 (cmS (I 156) n m nc frm)) P hM hq 159 ly159 (by decide) (by decide)) ?_
          refine wpE (lv' := [(0, .inr (some 155)), (1, .inl name), (2, .inl frm)]) (st' := []) (M' := (lay0, arS (mdB I (chP (I 155 5) (I 155 4) (I 157) (tr1 I)) (chQ (I 155 5) (I 155 4)) (tr1 I) (I 158)) 156 (cmS (I 156) n m nc frm), P)) rfl rfl (by refine memE ?_; exact chI_md _ _ _ _ _ _ _) ?_
          refine r_aload_n (d := mX6_copy) (pc := 75) (i := 0) (v := 155) dX6_copy_75 rfl rfl ?_
          refine r_getRs (d := mX6_copy) (pc := 76) (a := 155) (kd := 6) (j := 0) (x := 156) dX6_copy_76 flRX6_7 ly155 (by decide) (by decide) rfl hM.1 ?_
          refine r_bipush (d := mX6_copy) (pc := 79) (n := 12) dX6_copy_79 ?_
          refine r_iload_n (d := mX6_copy) (pc := 81) (i := 2) (v := frm) dX6_copy_81 rfl rfl ?_
          refine r_iadd (d := mX6_copy) (pc := 82) dX6_copy_82 ?_
          refine r_ialds (d := mX6_copy) (pc := 83) (a := 156) (x := ((cmS (I 156) n m nc frm) (12 + frm))) dX6_copy_83 ly156 (by omega) (by omega) (rfl) ?_
          change WP _ _ _ _ _ _ _ [.inl (cmC (I 156) n m nc frm)] _
          refine r_istore_n (d := mX6_copy) (pc := 84) (i := 3) (lv' := [(0, .inr (some 155)), (1, .inl name), (2, .inl frm), (3, .inl (cmC (I 156) n m nc frm))]) dX6_copy_84 rfl (by decide) rfl rfl ?_
          refine r_aload_n (d := mX6_copy) (pc := 85) (i := 0) (v := 155) dX6_copy_85 rfl rfl ?_
          refine r_iload_n (d := mX6_copy) (pc := 86) (i := 1) (v := name) dX6_copy_86 rfl rfl ?_
          refine r_cV1 (d := mX6_copy) (pc := 87) (dj := mX6_givesUp) (a := 155) (kd := 6) dX6_copy_87 mlRX6_92 inX6_givesUp selX6_givesUp rfl ly155 (by decide) okX6_givesUp (by decide) rfl (Nat.le_of_ble_eq_true rfl) (by decide) (by decide) (Fn_X6_givesUp (k + 2) (arS (mdB I (chP (I 155 5) (I 155 4) (I 157) (tr1 I)) (chQ (I 155 5) (I 155 4)) (tr1 I) (I 158)) 156 (cmS (I 156) n m nc frm)) P hM n (by show cmS (I 156) n m nc frm 3 = _; rw [cmS, siS_lo _ _ _ _ _ _ _ (by omega) (by omega) (by omega) (by omega), fset_ne _ _ (by omega)]; exact hn) hn6 m (by show cmS (I 156) n m nc frm 2 = _; rw [cmS, siS_lo _ _ _ _ _ _ _ (by omega) (by omega) (by omega) (by omega), fset_ne _ _ (by omega)]; exact hm) hm3 nc (by show cmS (I 156) n m nc frm 0 = _; rw [cmS, siS_lo _ _ _ _ _ _ _ (by omega) (by omega) (by omega) (by omega), fset_ne _ _ (by omega)]; exact hc) hc7 name (by omega) (by omega)) ?_
          refine wpE (lv' := [(0, .inr (some 155)), (1, .inl name), (2, .inl frm), (3, .inl (cmC (I 156) n m nc frm))]) (st' := []) (M' := (lay0, arS (mdB I (chP (I 155 5) (I 155 4) (I 157) (tr1 I)) (chQ (I 155 5) (I 155 4)) (tr1 I) (I 158)) 156 (guM (cmS (I 156) n m nc frm) n m nc name), P)) rfl rfl (memE (arS_arS _ _ _ _)) ?_
          refine r_aload_n (d := mX6_copy) (pc := 90) (i := 0) (v := 155) dX6_copy_90 rfl rfl ?_
          refine r_getRs (d := mX6_copy) (pc := 91) (a := 155) (kd := 6) (j := 0) (x := 156) dX6_copy_91 flRX6_7 ly155 (by decide) (by decide) rfl hM.1 ?_
          refine r_bipush (d := mX6_copy) (pc := 94) (n := 12) dX6_copy_94 ?_
          refine r_iload_n (d := mX6_copy) (pc := 96) (i := 1) (v := name) dX6_copy_96 rfl rfl ?_
          refine r_iadd (d := mX6_copy) (pc := 97) dX6_copy_97 ?_
          refine r_iload_n (d := mX6_copy) (pc := 98) (i := 3) (v := cmC (I 156) n m nc frm) dX6_copy_98 rfl rfl ?_
          refine r_iasts (d := mX6_copy) (pc := 99) (a := 156) (lay0, arS (mdB I (chP (I 155 5) (I 155 4) (I 157) (tr1 I)) (chQ (I 155 5) (I 155 4)) (tr1 I) (I 158)) 156 (fset (guM (cmS (I 156) n m nc frm) n m nc name) (12 + name) (cmC (I 156) n m nc frm)), P) dX6_copy_99 ly156 (by omega) (by omega) (memE (arS_up _ _ _ _ _)) ?_
          refine r_aload_n (d := mX6_copy) (pc := 100) (i := 0) (v := 155) dX6_copy_100 rfl rfl ?_
          refine r_getRs (d := mX6_copy) (pc := 101) (a := 155) (kd := 6) (j := 0) (x := 156) dX6_copy_101 flRX6_7 ly155 (by decide) (by decide) rfl hM.1 ?_
          refine r_iload_n (d := mX6_copy) (pc := 104) (i := 3) (v := cmC (I 156) n m nc frm) dX6_copy_104 rfl rfl ?_
          refine r_iconst (d := mX6_copy) (pc := 105) (n := 4) dX6_copy_105 ?_
          refine r_cS2 (d := mX6_copy) (pc := 106) (dj := mX6_at) dX6_copy_106 mlRX6_65 staX6_at okX6_at (by decide) rfl (Nat.le_of_ble_eq_true rfl) (by decide) (by decide) (Fn_X6_at (k + 5) (arS (mdB I (chP (I 155 5) (I 155 4) (I 157) (tr1 I)) (chQ (I 155 5) (I 155 4)) (tr1 I) (I 158)) 156 (fset (guM (cmS (I 156) n m nc frm) n m nc name) (12 + name) (cmC (I 156) n m nc frm))) P (cmC (I 156) n m nc frm) 4 (by omega) (by omega) (by omega) (by omega)) ?_
          refine r_aload_n (d := mX6_copy) (pc := 109) (i := 0) (v := 155) dX6_copy_109 rfl rfl ?_
          refine r_getRs (d := mX6_copy) (pc := 110) (a := 155) (kd := 6) (j := 0) (x := 156) dX6_copy_110 flRX6_7 ly155 (by decide) (by decide) rfl hM.1 ?_
          refine r_bipush (d := mX6_copy) (pc := 113) (n := 7) dX6_copy_113 ?_
          refine r_ialds (d := mX6_copy) (pc := 115) (a := 156) (x := ((cmS (I 156) n m nc frm) 7)) dX6_copy_115 ly156 (by decide) (by decide) (by show (fset (guM (cmS (I 156) n m nc frm) n m nc name) (12 + name) (cmC (I 156) n m nc frm)) 7 = _; rw [fset_ne _ _ (by omega), guM_lo _ _ _ _ _ (by omega) (by omega)]) ?_
          refine r_iasts (d := mX6_copy) (pc := 116) (a := 156) (lay0, arS (mdB I (chP (I 155 5) (I 155 4) (I 157) (tr1 I)) (chQ (I 155 5) (I 155 4)) (tr1 I) (I 158)) 156 (fset (fset (guM (cmS (I 156) n m nc frm) n m nc name) (12 + name) (cmC (I 156) n m nc frm)) (28 + 5 * (cmC (I 156) n m nc frm) + 4) ((cmS (I 156) n m nc frm) 7)), P) dX6_copy_116 ly156 (by omega) (by omega) (memE (arS_up _ _ _ _ _)) ?_
          refine r_iload_n (d := mX6_copy) (pc := 117) (i := 3) (v := cmC (I 156) n m nc frm) dX6_copy_117 rfl rfl ?_
          exact r_iret (d := mX6_copy) (pc := 118) dX6_copy_118 rfl (rtI (by rw [cmV, if_neg (by omega), if_pos h50]) (by refine memE ?_; rw [cmI, if_neg (by omega), if_pos h50, cmX, show cmS (I 156) n m nc frm 7 = I 156 7 + 1 by rw [cmS, siS_lo _ _ _ _ _ _ _ (by omega) (by omega) (by omega) (by omega), fset_at]])) (by decide) (by decide)
        · refine r_aload_n (d := mX6_copy) (pc := 53) (i := 0) (v := 155) dX6_copy_53 rfl rfl ?_
          refine r_getRs (d := mX6_copy) (pc := 54) (a := 155) (kd := 6) (j := 3) (x := 159) dX6_copy_54 flRX6_19 ly155 (by decide) (by decide) rfl hM.2.2.2.1 ?_
          refine r_aload_n (d := mX6_copy) (pc := 57) (i := 0) (v := 155) dX6_copy_57 rfl rfl ?_
          refine r_getRs (d := mX6_copy) (pc := 58) (a := 155) (kd := 6) (j := 0) (x := 156) dX6_copy_58 flRX6_7 ly155 (by decide) (by decide) rfl hM.1 ?_
          refine r_cS2 (d := mX6_copy) (pc := 61) (dj := mX6_copies) dX6_copy_61 mlRX6_88 staX6_copies okX6_copies (by decide) rfl (Nat.le_of_ble_eq_true rfl) (by decide) (by decide) (Fn_X6_copies (k + 5) (arS (mdB I (I 157) (I 155 4) (tr1 I) (I 158)) 156 (cmS (I 156) n m nc frm)) P 159 156 ly159 ly156 (by decide)) ?_
          refine wpE (lv' := [(0, .inr (some 155)), (1, .inl name), (2, .inl frm)]) (st' := []) (M' := (lay0, arS (mdB I (I 157) (I 155 4) (tr1 I) (I 158)) 156 (cpF (cmS (I 156) n m nc frm) (tr1 I)), P)) rfl rfl (by refine memE ?_; exact mdB_cp156 _ _ _ _ _ _ _) ?_
          refine r_bipush (d := mX6_copy) (pc := 64) (n := (-2)) dX6_copy_64 ?_
          exact r_iret (d := mX6_copy) (pc := 66) dX6_copy_66 rfl (rtI (by rw [cmV, if_neg (by omega), if_neg h50]) (by refine memE ?_; rw [cmI, if_neg (by omega), if_neg h50])) (by decide) (by decide)
      · refine r_iconst (d := mX6_copy) (pc := 19) (n := (-1)) dX6_copy_19 ?_
        exact r_iret (d := mX6_copy) (pc := 20) dX6_copy_20 rfl (rtI (by rw [cmV, if_pos (by omega)]) (by refine memE ?_; rw [cmI, if_pos (by omega)])) (by decide) (by decide)
