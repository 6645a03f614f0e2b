/-! ===== the model: an order is given, dropped; results ===== -/
theorem mul64 {x y : Int} (hx0 : 0 ≤ x) (hx1 : x ≤ 9999) (hy0 : 0 ≤ y) (hy1 : y ≤ 9999) : ((Int32.ofInt x).toInt64 * (Int32.ofInt y).toInt64 - (Int32.ofInt x).toInt64 * (Int32.ofInt y).toInt64 / 10000 * 10000).toInt32 = Int32.ofInt (x * y % 10000) := by
  have hr := mul_rng hx0 hx1 hy0 hy1
  have h1 : (Int32.ofInt x).toInt64 = Int64.ofInt x := Int32.toInt64_ofInt (by show (-2147483648 : Int) ≤ x; omega) (by show x ≤ (2147483647 : Int); omega)
  have h2 : (Int32.ofInt y).toInt64 = Int64.ofInt y := Int32.toInt64_ofInt (by show (-2147483648 : Int) ≤ y; omega) (by show y ≤ (2147483647 : Int); omega)
  rw [h1, h2, ← Int64.ofInt_mul]
  have h3 : (Int64.ofInt (x * y)).toInt = x * y := Int64.toInt_ofInt_of_le (by omega) (by omega)
  have h4 := Jvm.Kit.i64_rem_nonneg (x := Int64.ofInt (x * y)) (y := 10000) (by rw [h3]; exact hr.1)
  rw [h3] at h4
  have h5 : (10000 : Int64).toInt = 10000 := by decide
  rw [h5] at h4
  rw [show Int64.ofInt (x * y) - Int64.ofInt (x * y) / 10000 * 10000 = Int64.ofInt (x * y % 10000) by rw [← h4, Int64.ofInt_toInt], Int64.toInt32_ofInt]
theorem ctl105 : Cond.constantLong mX6_result.1.cls 105 10000 ∈ mTb := mTb_in4 (i := 41) rfl rfl
theorem r_mm {k : Nat} {S : Option (Nat × (Nat → Int))} {u : Nat × Nat} {Q : Option mV → mM → Prop} {lv : List (Nat × mV)} {st : List mV} {M : mM} {x y : Int} (h1 : mLk lv 1 = some (.inl x)) (h2 : mLk lv 2 = some (.inl y)) (hx0 : 0 ≤ x) (hx1 : x ≤ 9999) (hy0 : 0 ≤ y) (hy1 : y ≤ 9999)
    (kk : WP k mX6_result S u Q 31 lv (.inl (x * y % 10000) :: st) M) : WP k mX6_result S u Q 21 lv st M := by
  intro p l e R s m args below meth c D al0 n0 A QS C hS hret al H locs ls hag hn hW hst hlv hl
  have hx := C.1
  have hb := C.2.1
  refine lv_iload_n hx hb dX6_result_21 rfl (mLv_at hl h1) ?_
  refine lv_i2l hx hb dX6_result_22 rfl ?_
  refine lv_iload_n hx hb dX6_result_23 rfl (mLv_at hl h2) ?_
  refine lv_i2l hx hb dX6_result_24 rfl ?_
  refine lv_lmul hx hb dX6_result_25 ?_
  refine lv_ldc2 hx hb C.2.2.2.2.1 (mB (C.2.2.2.2.2.1 _ ctl105)) dX6_result_26 ?_
  refine lv_lrem hx hb dX6_result_29 (by decide) ?_
  refine lv_l2i hx hb dX6_result_30 (mul64 hx0 hx1 hy0 hy1) ?_
  exact kk p l e R s m args below meth c D al0 n0 A QS C hS hret al H locs ls hag hn hW (ok_push (v := .inl (x * y % 10000)) (show mI _ by unfold mI; omega) hst) hlv hl
theorem gvS_lo (s : Int → Int) (n m nc : Nat) (name one other : Int) {i : Int} (h : i < 12) (h5 : i ≠ 5) (h6 : i ≠ 6) (h7 : i ≠ 7) (h0 : 0 ≤ name) (h1 : 0 ≤ one) (h2 : 0 ≤ other) (hF : gv1 s n m nc name one other = true → gv2 s n m nc name one other = true → (0 ≤ gvF s n m nc name one other ∧ 0 ≤ gvG s n m nc name one other)) : gvS s n m nc name one other i = s i := by
  have hk := cfV_rng (gvD s n m nc name one other) n m nc one other
  have a := gvA_lo s n m nc name one other h h7 h0
  unfold gvS
  by_cases g1 : gv1 s n m nc name one other = true
  · rw [if_pos g1]
    by_cases g2 : gv2 s n m nc name one other = true
    · have hf := hF g1 g2
      rw [if_pos g2]
      by_cases g3 : gvK s n m nc name one other < 0
      · rw [if_pos g3, gvE_lo _ _ _ _ _ _ _ h h5, gvC_lo _ _ _ _ _ _ _ h h5 h6 h1 h2, a]
      · rw [if_neg g3, gvX, fset_ne _ _ (by omega), fset_ne _ _ (by omega), fset_ne _ _ (by omega), fset_ne _ _ (by omega), fset_ne _ _ (by omega), fset_ne _ _ (by omega), fset_ne _ _ (by omega), fset_ne _ _ (by omega), gvE_lo _ _ _ _ _ _ _ h h5, gvC_lo _ _ _ _ _ _ _ h h5 h6 h1 h2, a]
    · rw [if_neg g2, gvC_lo _ _ _ _ _ _ _ h h5 h6 h1 h2, a]
  · rw [if_neg g1, gvB_lo _ _ _ _ _ _ _ h h5 h6 h1, a]
def drJ (s : Int → Int) (n o : Nat) (j : Nat) : Int → Int := fun i => if i = 3 then (n : Int) - 1 else if 111 + 7 * (o : Int) ≤ i ∧ i < 111 + 7 * (o : Int) + (j : Int) then s (i + 7) else s i
def drS (s : Int → Int) (n o : Nat) : Int → Int := drJ s n o (7 * (n - 1 - o))
theorem drJ_0 (s : Int → Int) (n o : Nat) : fset s 3 ((n : Int) - 1) = drJ s n o 0 := by
  funext i
  unfold fset drJ
  by_cases h : i = 3
  · rw [if_pos h, if_pos h]
  · rw [if_neg h, if_neg h, if_neg (by omega)]
theorem drJ_s (s : Int → Int) (n o j : Nat) : fset (drJ s n o j) ((111 + 7 * (o : Int) + 0) + (j : Int)) (s ((111 + 7 * (o : Int) + 0) + (j : Int) + 7)) = drJ s n o (j + 1) := by
  funext i
  unfold fset
  by_cases h : i = (111 + 7 * (o : Int) + 0) + (j : Int)
  · rw [if_pos h]
    unfold drJ
    rw [if_neg (by omega), if_pos (by omega), h]
  · rw [if_neg h]
    unfold drJ
    by_cases h3 : i = 3
    · rw [if_pos h3, if_pos h3]
    · rw [if_neg h3, if_neg h3]
      by_cases h4 : 111 + 7 * (o : Int) ≤ i ∧ i < 111 + 7 * (o : Int) + (j : Int)
      · rw [if_pos h4, if_pos (by omega)]
      · rw [if_neg h4, if_neg (by omega)]
def omOk (what name one other : Int) : Prop := True
def omX (s : Int → Int) (n m nc : Nat) (what name one other : Int) : Int → Int := fset (fset (fset (fset (fset (gvS s n m nc name one other) (111 + 7 * (n : Int) + 0) what) (111 + 7 * (n : Int) + 1) (gvV s n m nc name one other)) (111 + 7 * (n : Int) + 4) (-1)) (111 + 7 * (n : Int) + 5) m) 3 ((n : Int) + 1)
def omV (s : Int → Int) (n m nc : Nat) (what name one other : Int) : Int := if ¬ ((0 ≤ what ∧ what ≤ 2) ∧ (0 ≤ name ∧ name ≤ 7) ∧ (0 ≤ one ∧ one ≤ 7) ∧ (0 ≤ other ∧ other ≤ 7)) then -1 else if gvV s n m nc name one other < 0 then -2 else if n = 6 then -3 else gvV s n m nc name one other
def omI (I : mIt) (n m nc : Nat) (what name one other : Int) : mIt := if ¬ ((0 ≤ what ∧ what ≤ 2) ∧ (0 ≤ name ∧ name ≤ 7) ∧ (0 ≤ one ∧ one ≤ 7) ∧ (0 ≤ other ∧ other ≤ 7)) then I else if gvV (I 156) n m nc name one other < 0 ∨ n = 6 then arS (mdB I (I 157) (I 155 4) (tr1 I) (I 158)) 156 (cpF (gvS (I 156) n m nc name one other) (tr1 I)) else arS (mdB I (chP (I 155 5) (I 155 4) (I 157) (tr1 I)) (chQ (I 155 5) (I 155 4)) (tr1 I) (I 158)) 156 (omX (I 156) n m nc what name one other)
set_option maxRecDepth 20000 in
set_option maxHeartbeats 4000000 in
theorem Fn_X6_result (k : Nat) (I : mIt) (P : mPt) (what x y : Int) (hw : what = 0 ∨ what = 1 ∨ what = 2) (hx0 : 0 ≤ x) (hx1 : x ≤ 9999) (hy0 : 0 ≤ y) (hy1 : y ≤ 9999) : WP (k + 0) mX6_result none (0, 0) (Rt (some (.inl (res what x y))) (lay0, I, P)) 0 [(0, .inl what), (1, .inl x), (2, .inl y)] [] (lay0, I, P) := by
  have hxy := mul_rng hx0 hx1 hy0 hy1
  refine r_iload_n (d := mX6_result) (pc := 0) (i := 0) (v := what) dX6_result_0 rfl rfl ?_
  refine r_if_ne (d := mX6_result) (pc := 1) (tgt := 10) dX6_result_1 (by decide) (fun h1 => ?_) (fun h1 => ?_)
  · refine r_iload_n (d := mX6_result) (pc := 10) (i := 0) (v := what) dX6_result_10 rfl rfl ?_
    refine r_iconst (d := mX6_result) (pc := 11) (n := 1) dX6_result_11 ?_
    refine r_icmp_ne (d := mX6_result) (pc := 12) (tgt := 21) dX6_result_12 (by decide) (fun h12 => ?_) (fun h12 => ?_)
    · refine  r_mm (x := x) (y := y) rfl rfl hx0 hx1 hy0 hy1 ?_
      refine r_istore_n (d := mX6_result) (pc := 31) (i := 3) (lv' := [(0, .inl what), (1, .inl x), (2, .inl y), (3, .inl (x * y % 10000))]) dX6_result_31 rfl (by decide) rfl rfl ?_
      refine r_iload_n (d := mX6_result) (pc := 32) (i := 3) (v := (x * y % 10000)) dX6_result_32 rfl rfl ?_
      refine r_if_ge (d := mX6_result) (pc := 33) (tgt := 44) dX6_result_33 (by decide) (fun h33 => ?_) (fun h33 => ?_)
      · refine r_iload_n (d := mX6_result) (pc := 44) (i := 3) (v := (x * y % 10000)) dX6_result_44 rfl rfl ?_
        refine r_sipush (d := mX6_result) (pc := 45) (n := 10000) dX6_result_45 ?_
        refine r_irem (d := mX6_result) (pc := 48) dX6_result_48 (by omega) ?_
        exact r_iret (d := mX6_result) (pc := 49) dX6_result_49 rfl (rtI (by rw [res, if_neg (by omega), if_neg (by omega)]; have ht := tm10k (x * y % 10000); omega) (by rfl)) (by decide) (by decide)
      · refine r_iload_n (d := mX6_result) (pc := 36) (i := 3) (v := (x * y % 10000)) dX6_result_36 rfl rfl ?_
        refine r_sipush (d := mX6_result) (pc := 37) (n := 10000) dX6_result_37 ?_
        refine r_iadd (d := mX6_result) (pc := 40) dX6_result_40 ?_
        refine r_goto (d := mX6_result) (pc := 41) (tgt := 49) dX6_result_41 (by decide) ?_
        exact r_iret (d := mX6_result) (pc := 49) dX6_result_49 rfl (rtI (by rw [res, if_neg (by omega), if_neg (by omega)]; have ht := tm10k (x * y % 10000); omega) (by rfl)) (by decide) (by decide)
    · refine r_iload_n (d := mX6_result) (pc := 15) (i := 1) (v := x) dX6_result_15 rfl rfl ?_
      refine r_iload_n (d := mX6_result) (pc := 16) (i := 2) (v := y) dX6_result_16 rfl rfl ?_
      refine r_isub (d := mX6_result) (pc := 17) dX6_result_17 ?_
      refine r_goto (d := mX6_result) (pc := 18) (tgt := 31) dX6_result_18 (by decide) ?_
      refine r_istore_n (d := mX6_result) (pc := 31) (i := 3) (lv' := [(0, .inl what), (1, .inl x), (2, .inl y), (3, .inl (x - y))]) dX6_result_31 rfl (by decide) rfl rfl ?_
      refine r_iload_n (d := mX6_result) (pc := 32) (i := 3) (v := (x - y)) dX6_result_32 rfl rfl ?_
      refine r_if_ge (d := mX6_result) (pc := 33) (tgt := 44) dX6_result_33 (by decide) (fun h33 => ?_) (fun h33 => ?_)
      · refine r_iload_n (d := mX6_result) (pc := 44) (i := 3) (v := (x - y)) dX6_result_44 rfl rfl ?_
        refine r_sipush (d := mX6_result) (pc := 45) (n := 10000) dX6_result_45 ?_
        refine r_irem (d := mX6_result) (pc := 48) dX6_result_48 (by omega) ?_
        exact r_iret (d := mX6_result) (pc := 49) dX6_result_49 rfl (rtI (by rw [res, if_neg (by omega), if_pos (by omega)]; have ht := tm10k (x - y); omega) (by rfl)) (by decide) (by decide)
      · refine r_iload_n (d := mX6_result) (pc := 36) (i := 3) (v := (x - y)) dX6_result_36 rfl rfl ?_
        refine r_sipush (d := mX6_result) (pc := 37) (n := 10000) dX6_result_37 ?_
        refine r_iadd (d := mX6_result) (pc := 40) dX6_result_40 ?_
        refine r_goto (d := mX6_result) (pc := 41) (tgt := 49) dX6_result_41 (by decide) ?_
        exact r_iret (d := mX6_result) (pc := 49) dX6_result_49 rfl (rtI (by rw [res, if_neg (by omega), if_pos (by omega)]; have ht := tm10k (x - y); omega) (by rfl)) (by decide) (by decide)
  · refine r_iload_n (d := mX6_result) (pc := 4) (i := 1) (v := x) dX6_result_4 rfl rfl ?_
    refine r_iload_n (d := mX6_result) (pc := 5) (i := 2) (v := y) dX6_result_5 rfl rfl ?_
    refine r_iadd (d := mX6_result) (pc := 6) dX6_result_6 ?_
    refine r_goto (d := mX6_result) (pc := 7) (tgt := 31) dX6_result_7 (by decide) ?_
    refine r_istore_n (d := mX6_result) (pc := 31) (i := 3) (lv' := [(0, .inl what), (1, .inl x), (2, .inl y), (3, .inl (x + y))]) dX6_result_31 rfl (by decide) rfl rfl ?_
    refine r_iload_n (d := mX6_result) (pc := 32) (i := 3) (v := (x + y)) dX6_result_32 rfl rfl ?_
    refine r_if_ge (d := mX6_result) (pc := 33) (tgt := 44) dX6_result_33 (by decide) (fun h33 => ?_) (fun h33 => ?_)
    · refine r_iload_n (d := mX6_result) (pc := 44) (i := 3) (v := (x + y)) dX6_result_44 rfl rfl ?_
      refine r_sipush (d := mX6_result) (pc := 45) (n := 10000) dX6_result_45 ?_
      refine r_irem (d := mX6_result) (pc := 48) dX6_result_48 (by omega) ?_
      exact r_iret (d := mX6_result) (pc := 49) dX6_result_49 rfl (rtI (by rw [res, if_pos (by omega)]; have ht := tm10k (x + y); omega) (by rfl)) (by decide) (by decide)
    · refine r_iload_n (d := mX6_result) (pc := 36) (i := 3) (v := (x + y)) dX6_result_36 rfl rfl ?_
      refine r_sipush (d := mX6_result) (pc := 37) (n := 10000) dX6_result_37 ?_
      refine r_iadd (d := mX6_result) (pc := 40) dX6_result_40 ?_
      refine r_goto (d := mX6_result) (pc := 41) (tgt := 49) dX6_result_41 (by decide) ?_
      exact r_iret (d := mX6_result) (pc := 49) dX6_result_49 rfl (rtI (by rw [res, if_pos (by omega)]; have ht := tm10k (x + y); omega) (by rfl)) (by decide) (by decide)
set_option maxRecDepth 20000 in
set_option maxHeartbeats 4000000 in
theorem Fn_X6_drops (k : Nat) (I : mIt) (P : mPt) (hM : isMd P) (n o : Nat) (hn : I 156 3 = n) (hn6 : n ≤ 6) (ho : o < n) : WP (k + 1) mX6_drops none (0, 0) (Rt none (lay0, arS I 156 (drS (I 156) n o), P)) 0 [(0, .inr (some 155)), (1, .inl (o : Int))] [] (lay0, I, P) := by
  refine r_aload_n (d := mX6_drops) (pc := 0) (i := 0) (v := 155) dX6_drops_0 rfl rfl ?_
  refine r_getRs (d := mX6_drops) (pc := 1) (a := 155) (kd := 6) (j := 0) (x := 156) dX6_drops_1 flRX6_7 ly155 (by decide) (by decide) rfl hM.1 ?_
  refine r_iconst (d := mX6_drops) (pc := 4) (n := 3) dX6_drops_4 ?_
  refine r_dup2 (d := mX6_drops) (pc := 5) dX6_drops_5 ?_
  refine r_ialds (d := mX6_drops) (pc := 6) (a := 156) (x := (n : Int)) dX6_drops_6 ly156 (by decide) (by decide) (hn) ?_
  refine r_iconst (d := mX6_drops) (pc := 7) (n := 1) dX6_drops_7 ?_
  refine r_isub (d := mX6_drops) (pc := 8) dX6_drops_8 ?_
  refine r_iasts (d := mX6_drops) (pc := 9) (a := 156) (lay0, arS I 156 (fset (I 156) 3 ((n : Int) - 1)), P) dX6_drops_9 ly156 (by decide) (by decide) rfl ?_
  refine r_iload_n (d := mX6_drops) (pc := 10) (i := 1) (v := (o : Int)) dX6_drops_10 rfl rfl ?_
  refine r_iconst (d := mX6_drops) (pc := 11) (n := 0) dX6_drops_11 ?_
  refine r_cS2 (d := mX6_drops) (pc := 12) (dj := mX6_ofOrder) dX6_drops_12 mlRX6_47 staX6_ofOrder okX6_ofOrder (by decide) rfl (Nat.le_of_ble_eq_true rfl) (by decide) (by decide) (Fn_X6_ofOrder k (arS I 156 (fset (I 156) 3 ((n : Int) - 1))) P (o : Int) 0 (by omega) (by omega) (by omega) (by omega)) ?_
  refine r_istore_n (d := mX6_drops) (pc := 15) (i := 2) (lv' := [(0, .inr (some 155)), (1, .inl (o : Int)), (2, .inl (111 + 7 * (o : Int) + 0))]) dX6_drops_15 rfl (by decide) rfl rfl ?_
  have L16 : ∀ j : Nat, j ≤ 7 * (n - 1 - o) → WP (k + 1) mX6_drops none (0, 0) (Rt none (lay0, arS I 156 (drS (I 156) n o), P)) 16 [(0, .inr (some 155)), (1, .inl (o : Int)), (2, .inl ((111 + 7 * (o : Int) + 0) + (j : Int)))] [] (lay0, arS I 156 (drJ (I 156) n o j), P) := by
    refine loopN (7 * (n - 1 - o)) _ (fun j ih16 hj16 => ?_)
    refine r_iload_n (d := mX6_drops) (pc := 16) (i := 2) (v := ((111 + 7 * (o : Int) + 0) + (j : Int))) dX6_drops_16 rfl rfl ?_
    refine r_aload_n (d := mX6_drops) (pc := 17) (i := 0) (v := 155) dX6_drops_17 rfl rfl ?_
    refine r_getRs (d := mX6_drops) (pc := 18) (a := 155) (kd := 6) (j := 0) (x := 156) dX6_drops_18 flRX6_7 ly155 (by decide) (by decide) rfl hM.1 ?_
    refine r_iconst (d := mX6_drops) (pc := 21) (n := 3) dX6_drops_21 ?_
    refine r_ialds (d := mX6_drops) (pc := 22) (a := 156) (x := ((n : Int) - 1)) dX6_drops_22 ly156 (by decide) (by decide) (by show (drJ (I 156) n o j) 3 = _; rw [show drJ (I 156) n o j 3 = (n : Int) - 1 from rfl]) ?_
    refine r_iconst (d := mX6_drops) (pc := 23) (n := 0) dX6_drops_23 ?_
    refine r_cS2 (d := mX6_drops) (pc := 24) (dj := mX6_ofOrder) dX6_drops_24 mlRX6_47 staX6_ofOrder okX6_ofOrder (by decide) rfl (Nat.le_of_ble_eq_true rfl) (by decide) (by decide) (Fn_X6_ofOrder k (arS I 156 (drJ (I 156) n o j)) P ((n : Int) - 1) 0 (by omega) (by omega) (by omega) (by omega)) ?_
    refine r_icmp_ge (d := mX6_drops) (pc := 27) (tgt := 51) dX6_drops_27 (by decide) (fun h27 => ?_) (fun h27 => ?_)
    · exact r_ret (d := mX6_drops) (pc := 51) dX6_drops_51 rfl (rtV (by refine memE ?_; rw [drS, show j = 7 * (n - 1 - o) by omega])) (by decide) (by decide)
    · refine r_aload_n (d := mX6_drops) (pc := 30) (i := 0) (v := 155) dX6_drops_30 rfl rfl ?_
      refine r_getRs (d := mX6_drops) (pc := 31) (a := 155) (kd := 6) (j := 0) (x := 156) dX6_drops_31 flRX6_7 ly155 (by decide) (by decide) rfl hM.1 ?_
      refine r_iload_n (d := mX6_drops) (pc := 34) (i := 2) (v := ((111 + 7 * (o : Int) + 0) + (j : Int))) dX6_drops_34 rfl rfl ?_
      refine r_aload_n (d := mX6_drops) (pc := 35) (i := 0) (v := 155) dX6_drops_35 rfl rfl ?_
      refine r_getRs (d := mX6_drops) (pc := 36) (a := 155) (kd := 6) (j := 0) (x := 156) dX6_drops_36 flRX6_7 ly155 (by decide) (by decide) rfl hM.1 ?_
      refine r_iload_n (d := mX6_drops) (pc := 39) (i := 2) (v := ((111 + 7 * (o : Int) + 0) + (j : Int))) dX6_drops_39 rfl rfl ?_
      refine r_bipush (d := mX6_drops) (pc := 40) (n := 7) dX6_drops_40 ?_
      refine r_iadd (d := mX6_drops) (pc := 42) dX6_drops_42 ?_
      refine r_ialds (d := mX6_drops) (pc := 43) (a := 156) (x := (I 156 (((111 + 7 * (o : Int) + 0) + (j : Int)) + 7))) dX6_drops_43 ly156 (by omega) (by omega) (by show (drJ (I 156) n o j) (((111 + 7 * (o : Int) + 0) + (j : Int)) + 7) = _; rw [drJ, if_neg (by omega), if_neg (by omega)]) ?_
      refine r_iasts (d := mX6_drops) (pc := 44) (a := 156) (lay0, arS I 156 (fset (drJ (I 156) n o j) ((111 + 7 * (o : Int) + 0) + (j : Int)) (I 156 (((111 + 7 * (o : Int) + 0) + (j : Int)) + 7))), P) dX6_drops_44 ly156 (by omega) (by omega) (memE (arS_up _ _ _ _ _)) ?_
      refine r_iinc (d := mX6_drops) (pc := 45) (i := 2) (v := ((111 + 7 * (o : Int) + 0) + (j : Int))) (y := (((111 + 7 * (o : Int) + 0) + (j : Int)) + 1)) (lv' := [(0, .inr (some 155)), (1, .inl (o : Int)), (2, .inl (((111 + 7 * (o : Int) + 0) + (j : Int)) + 1))]) dX6_drops_45 rfl (by decide) rfl rfl rfl ?_
      refine r_goto (d := mX6_drops) (pc := 48) (tgt := 16) dX6_drops_48 (by decide) ?_
      exact wpE (by simp; omega) rfl (by refine memE ?_; rw [drJ_s]) (ih16 (by omega) (by omega))
  exact wpE (by simp) rfl (by refine memE ?_; rw [drJ_0]) (L16 0 (by omega))
set_option maxRecDepth 20000 in
set_option maxHeartbeats 4000000 in
theorem Fn_X6_order (k : Nat) (I : mIt) (P : mPt) (hM : isMd P) (n : Nat) (hn : I 156 3 = n) (hn6 : n ≤ 6) (m : Nat) (hm : I 156 2 = m) (hm3 : m ≤ 3) (nc : Nat) (hc : I 156 0 = nc) (hc7 : nc ≤ 7) (hq : 0 ≤ I 155 4 ∧ I 155 4 ≤ 4) (hs5 : 0 ≤ I 156 5 ∧ I 156 5 ≤ 2000000000) (hs6 : 0 ≤ I 156 6 ∧ I 156 6 ≤ 2000000000) (hs1 : 0 ≤ I 156 1 ∧ I 156 1 ≤ 60000) (hs10 : 0 ≤ I 156 10 ∧ I 156 10 ≤ 9) (hs7 : 0 ≤ I 156 7 ∧ I 156 7 ≤ 2000000000) (hs5b : I 156 5 ≤ 1999999990) (hs6b : I 156 6 ≤ 1999999990) (hseat : ∀ i : Int, 12 ≤ i → i < 20 → I 156 i < 7) (what name one other : Int) (hfgR : (0 ≤ name ∧ name ≤ 7) ∧ (0 ≤ one ∧ one ≤ 7) ∧ (0 ≤ other ∧ other ≤ 7) → gv1 (I 156) n m nc name one other = true → gv2 (I 156) n m nc name one other = true → (0 ≤ gvF (I 156) n m nc name one other ∧ gvF (I 156) n m nc name one other < 7) ∧ (0 ≤ gvG (I 156) n m nc name one other ∧ gvG (I 156) n m nc name one other < 7)) : WP (k + 7) mX6_order none (0, 0) (Rt (some (.inl (omV (I 156) n m nc what name one other))) (lay0, omI I n m nc what name one other, P)) 0 [(0, .inr (some 155)), (1, .inl what), (2, .inl name), (3, .inl one), (4, .inl other)] [] (lay0, I, P) := by
  refine r_iload_n (d := mX6_order) (pc := 0) (i := 1) (v := what) dX6_order_0 rfl rfl ?_
  refine r_iconst (d := mX6_order) (pc := 1) (n := 0) dX6_order_1 ?_
  refine r_iconst (d := mX6_order) (pc := 2) (n := 2) dX6_order_2 ?_
  refine r_cS3 (d := mX6_order) (pc := 3) (dj := mX6_in) dX6_order_3 mlRX6_43 staX6_in okX6_in (by decide) rfl (Nat.le_of_ble_eq_true rfl) (by decide) (by decide) (Fn_X6_in (k + 6) I P   what 0 2) ?_
  refine r_ifb_eq (d := mX6_order) (pc := 6) (tgt := 31) dX6_order_6 (by decide) (fun h6 => ?_) (fun h6 => ?_)
  · refine r_iconst (d := mX6_order) (pc := 31) (n := (-1)) dX6_order_31 ?_
    exact r_iret (d := mX6_order) (pc := 32) dX6_order_32 rfl (rtI (by rw [omV, if_pos (by omega)]) (by refine memE ?_; rw [omI, if_pos (by omega)])) (by decide) (by decide)
  · refine r_iload_n (d := mX6_order) (pc := 9) (i := 2) (v := name) dX6_order_9 rfl rfl ?_
    refine r_cS1 (d := mX6_order) (pc := 10) (dj := mX6_isName) dX6_order_10 mlRX6_85 staX6_isName okX6_isName (by decide) rfl (Nat.le_of_ble_eq_true rfl) (by decide) (by decide) (Fn_X6_isName (k + 5) I P   name) ?_
    refine r_ifb_eq (d := mX6_order) (pc := 13) (tgt := 31) dX6_order_13 (by decide) (fun h13 => ?_) (fun h13 => ?_)
    · refine r_iconst (d := mX6_order) (pc := 31) (n := (-1)) dX6_order_31 ?_
      exact r_iret (d := mX6_order) (pc := 32) dX6_order_32 rfl (rtI (by rw [omV, if_pos (by omega)]) (by refine memE ?_; rw [omI, if_pos (by omega)])) (by decide) (by decide)
    · refine r_iload_n (d := mX6_order) (pc := 16) (i := 3) (v := one) dX6_order_16 rfl rfl ?_
      refine r_cS1 (d := mX6_order) (pc := 17) (dj := mX6_isName) dX6_order_17 mlRX6_85 staX6_isName okX6_isName (by decide) rfl (Nat.le_of_ble_eq_true rfl) (by decide) (by decide) (Fn_X6_isName (k + 5) I P   one) ?_
      refine r_ifb_eq (d := mX6_order) (pc := 20) (tgt := 31) dX6_order_20 (by decide) (fun h20 => ?_) (fun h20 => ?_)
      · refine r_iconst (d := mX6_order) (pc := 31) (n := (-1)) dX6_order_31 ?_
        exact r_iret (d := mX6_order) (pc := 32) dX6_order_32 rfl (rtI (by rw [omV, if_pos (by omega)]) (by refine memE ?_; rw [omI, if_pos (by omega)])) (by decide) (by decide)
      · refine r_iload (d := mX6_order) (pc := 23) (i := 4) (v := other) dX6_order_23 rfl ?_
        refine r_cS1 (d := mX6_order) (pc := 25) (dj := mX6_isName) dX6_order_25 mlRX6_85 staX6_isName okX6_isName (by decide) rfl (Nat.le_of_ble_eq_true rfl) (by decide) (by decide) (Fn_X6_isName (k + 5) I P   other) ?_
        refine r_ifb_ne (d := mX6_order) (pc := 28) (tgt := 33) dX6_order_28 (by decide) (fun h28 => ?_) (fun h28 => ?_)
        · have hfg := hfgR ⟨by omega, by omega, by omega⟩
          refine r_aload_n (d := mX6_order) (pc := 33) (i := 0) (v := 155) dX6_order_33 rfl rfl ?_
          refine r_getRs (d := mX6_order) (pc := 34) (a := 155) (kd := 6) (j := 0) (x := 156) dX6_order_34 flRX6_7 ly155 (by decide) (by decide) rfl hM.1 ?_
          refine r_aload_n (d := mX6_order) (pc := 37) (i := 0) (v := 155) dX6_order_37 rfl rfl ?_
          refine r_getRs (d := mX6_order) (pc := 38) (a := 155) (kd := 6) (j := 3) (x := 159) dX6_order_38 flRX6_19 ly155 (by decide) (by decide) rfl hM.2.2.2.1 ?_
          refine r_cS2 (d := mX6_order) (pc := 41) (dj := mX6_copies) dX6_order_41 mlRX6_88 staX6_copies okX6_copies (by decide) rfl (Nat.le_of_ble_eq_true rfl) (by decide) (by decide) (Fn_X6_copies (k + 6) I P 156 159 ly156 ly159 (by decide)) ?_
          refine wpE (lv' := [(0, .inr (some 155)), (1, .inl what), (2, .inl name), (3, .inl one), (4, .inl other)]) (st' := []) (M' := (lay0, arS (mdB I (I 157) (I 155 4) (cpF (I 159) (I 156)) (I 158)) 156 (I 156), P)) rfl rfl (by refine memE ?_; exact cp159_0 I) ?_
          refine r_aload_n (d := mX6_order) (pc := 44) (i := 0) (v := 155) dX6_order_44 rfl rfl ?_
          refine r_iload_n (d := mX6_order) (pc := 45) (i := 2) (v := name) dX6_order_45 rfl rfl ?_
          refine r_iload_n (d := mX6_order) (pc := 46) (i := 3) (v := one) dX6_order_46 rfl rfl ?_
          refine r_iload (d := mX6_order) (pc := 47) (i := 4) (v := other) dX6_order_47 rfl ?_
          refine r_cV3 (d := mX6_order) (pc := 49) (dj := mX6_gives) (a := 155) (kd := 6) dX6_order_49 mlRX6_102 inX6_gives selX6_gives rfl ly155 (by decide) okX6_gives (by decide) rfl (Nat.le_of_ble_eq_true rfl) (by decide) (by decide) (Fn_X6_gives k (arS (mdB I (I 157) (I 155 4) (cpF (I 159) (I 156)) (I 158)) 156 (I 156)) P hM n (hn) hn6 m (hm) hm3 nc (hc) hc7 hq hs5 hs6 hs1 hs10 hs7 hs5b hs6b hseat name one other (by omega) (by omega) (by omega) (by omega) (by omega) (by omega) hfg) ?_
          refine wpE (lv' := [(0, .inr (some 155)), (1, .inl what), (2, .inl name), (3, .inl one), (4, .inl other)]) (st' := [.inl (gvV (I 156) n m nc name one other)]) (M' := (lay0, arS (mdB I (I 157) (I 155 4) (cpF (I 159) (I 156)) (I 158)) 156 (gvS (I 156) n m nc name one other), P)) rfl rfl (memE (arS_arS _ _ _ _)) ?_
          refine r_istore (d := mX6_order) (pc := 52) (i := 5) (lv' := [(0, .inr (some 155)), (1, .inl what), (2, .inl name), (3, .inl one), (4, .inl other), (5, .inl (gvV (I 156) n m nc name one other))]) dX6_order_52 (by decide) rfl rfl ?_
          have hvr : gvV (I 156) n m nc name one other < 0 ∨ 0 ≤ gvV (I 156) n m nc name one other := by omega
          refine r_iload (d := mX6_order) (pc := 54) (i := 5) (v := gvV (I 156) n m nc name one other) dX6_order_54 rfl ?_
          refine r_if_lt (d := mX6_order) (pc := 56) (tgt := 70) dX6_order_56 (by decide) (fun h56 => ?_) (fun h56 => ?_)
          · refine r_aload_n (d := mX6_order) (pc := 70) (i := 0) (v := 155) dX6_order_70 rfl rfl ?_
            refine r_getRs (d := mX6_order) (pc := 71) (a := 155) (kd := 6) (j := 3) (x := 159) dX6_order_71 flRX6_19 ly155 (by decide) (by decide) rfl hM.2.2.2.1 ?_
            refine r_aload_n (d := mX6_order) (pc := 74) (i := 0) (v := 155) dX6_order_74 rfl rfl ?_
            refine r_getRs (d := mX6_order) (pc := 75) (a := 155) (kd := 6) (j := 0) (x := 156) dX6_order_75 flRX6_7 ly155 (by decide) (by decide) rfl hM.1 ?_
            refine r_cS2 (d := mX6_order) (pc := 78) (dj := mX6_copies) dX6_order_78 mlRX6_88 staX6_copies okX6_copies (by decide) rfl (Nat.le_of_ble_eq_true rfl) (by decide) (by decide) (Fn_X6_copies (k + 6) (arS (mdB I (I 157) (I 155 4) (cpF (I 159) (I 156)) (I 158)) 156 (gvS (I 156) n m nc name one other)) P 159 156 ly159 ly156 (by decide)) ?_
            refine wpE (lv' := [(0, .inr (some 155)), (1, .inl what), (2, .inl name), (3, .inl one), (4, .inl other), (5, .inl (gvV (I 156) n m nc name one other))]) (st' := []) (M' := (lay0, arS (mdB I (I 157) (I 155 4) (cpF (I 159) (I 156)) (I 158)) 156 (cpF (gvS (I 156) n m nc name one other) (cpF (I 159) (I 156))), P)) rfl rfl (by refine memE ?_; exact mdB_cp156 _ _ _ _ _ _ _) ?_
            refine r_iload (d := mX6_order) (pc := 81) (i := 5) (v := gvV (I 156) n m nc name one other) dX6_order_81 rfl ?_
            refine r_if_ge (d := mX6_order) (pc := 83) (tgt := 91) dX6_order_83 (by decide) (fun h83 => ?_) (fun h83 => ?_)
            · refine r_bipush (d := mX6_order) (pc := 91) (n := (-3)) dX6_order_91 ?_
              exact r_iret (d := mX6_order) (pc := 93) dX6_order_93 rfl (rtI (by rw [omV, if_neg (by omega), if_neg (by omega), if_pos (by omega)]) (by refine memE ?_; rw [omI, if_neg (by omega), if_pos (by omega)]; rfl)) (by decide) (by decide)
            · refine r_bipush (d := mX6_order) (pc := 86) (n := (-2)) dX6_order_86 ?_
              refine r_goto (d := mX6_order) (pc := 88) (tgt := 93) dX6_order_88 (by decide) ?_
              exact r_iret (d := mX6_order) (pc := 93) dX6_order_93 rfl (rtI (by rw [omV, if_neg (by omega), if_pos (by omega)]) (by refine memE ?_; rw [omI, if_neg (by omega), if_pos (by omega)]; rfl)) (by decide) (by decide)
          · refine r_aload_n (d := mX6_order) (pc := 59) (i := 0) (v := 155) dX6_order_59 rfl rfl ?_
            refine r_getRs (d := mX6_order) (pc := 60) (a := 155) (kd := 6) (j := 0) (x := 156) dX6_order_60 flRX6_7 ly155 (by decide) (by decide) rfl hM.1 ?_
            refine r_iconst (d := mX6_order) (pc := 63) (n := 3) dX6_order_63 ?_
            refine r_ialds (d := mX6_order) (pc := 64) (a := 156) (x := (n : Int)) dX6_order_64 ly156 (by decide) (by decide) (by show (gvS (I 156) n m nc name one other) 3 = _; rw [gvS_lo _ _ _ _ _ _ _ (by omega) (by omega) (by omega) (by omega) (by omega) (by omega) (by omega) (fun g1 g2 => ⟨(hfg g1 g2).1.1, (hfg g1 g2).2.1⟩)]; exact hn) ?_
            refine r_bipush (d := mX6_order) (pc := 65) (n := 6) dX6_order_65 ?_
            refine r_icmp_ne (d := mX6_order) (pc := 67) (tgt := 94) dX6_order_67 (by decide) (fun h67 => ?_) (fun h67 => ?_)
            · refine r_aload_n (d := mX6_order) (pc := 94) (i := 0) (v := 155) dX6_order_94 rfl rfl ?_
              refine r_aload_n (d := mX6_order) (pc := 95) (i := 0) (v := 155) dX6_order_95 rfl rfl ?_
              refine r_getRs (d := mX6_order) (pc := 96) (a := 155) (kd := 6) (j := 3) (x := 159) dX6_order_96 flRX6_19 ly155 (by decide) (by decide) rfl hM.2.2.2.1 ?_
              refine r_cV1 (d := mX6_order) (pc := 99) (dj := mX6_changes) (a := 155) (kd := 6) dX6_order_99 mlRX6_81 inX6_changes selX6_changes rfl ly155 (by decide) okX6_changes (by decide) rfl (Nat.le_of_ble_eq_true rfl) (by decide) (by decide) (Fn_X6_changes (k + 6) (arS (mdB I (I 157) (I 155 4) (cpF (I 159) (I 156)) (I 158)) 156 (gvS (I 156) n m nc name one other)) P hM hq 159 ly159 (by decide) (by decide)) ?_
              refine wpE (lv' := [(0, .inr (some 155)), (1, .inl what), (2, .inl name), (3, .inl one), (4, .inl other), (5, .inl (gvV (I 156) n m nc name one other))]) (st' := []) (M' := (lay0, arS (mdB I (chP (I 155 5) (I 155 4) (I 157) (cpF (I 159) (I 156))) (chQ (I 155 5) (I 155 4)) (cpF (I 159) (I 156)) (I 158)) 156 (gvS (I 156) n m nc name one other), P)) rfl rfl (by refine memE ?_; exact chI_md _ _ _ _ _ _ _) ?_
              refine r_aload_n (d := mX6_order) (pc := 102) (i := 0) (v := 155) dX6_order_102 rfl rfl ?_
              refine r_getRs (d := mX6_order) (pc := 103) (a := 155) (kd := 6) (j := 0) (x := 156) dX6_order_103 flRX6_7 ly155 (by decide) (by decide) rfl hM.1 ?_
              refine r_iconst (d := mX6_order) (pc := 106) (n := 3) dX6_order_106 ?_
              refine r_ialds (d := mX6_order) (pc := 107) (a := 156) (x := (n : Int)) dX6_order_107 ly156 (by decide) (by decide) (by show (gvS (I 156) n m nc name one other) 3 = _; rw [gvS_lo _ _ _ _ _ _ _ (by omega) (by omega) (by omega) (by omega) (by omega) (by omega) (by omega) (fun g1 g2 => ⟨(hfg g1 g2).1.1, (hfg g1 g2).2.1⟩)]; exact hn) ?_
              refine r_istore (d := mX6_order) (pc := 108) (i := 6) (lv' := [(0, .inr (some 155)), (1, .inl what), (2, .inl name), (3, .inl one), (4, .inl other), (5, .inl (gvV (I 156) n m nc name one other)), (6, .inl (n : Int))]) dX6_order_108 (by decide) rfl rfl ?_
              refine r_aload_n (d := mX6_order) (pc := 110) (i := 0) (v := 155) dX6_order_110 rfl rfl ?_
              refine r_getRs (d := mX6_order) (pc := 111) (a := 155) (kd := 6) (j := 0) (x := 156) dX6_order_111 flRX6_7 ly155 (by decide) (by decide) rfl hM.1 ?_
              refine r_iload (d := mX6_order) (pc := 114) (i := 6) (v := (n : Int)) dX6_order_114 rfl ?_
              refine r_iconst (d := mX6_order) (pc := 116) (n := 0) dX6_order_116 ?_
              refine r_cS2 (d := mX6_order) (pc := 117) (dj := mX6_ofOrder) dX6_order_117 mlRX6_47 staX6_ofOrder okX6_ofOrder (by decide) rfl (Nat.le_of_ble_eq_true rfl) (by decide) (by decide) (Fn_X6_ofOrder (k + 6) (arS (mdB I (chP (I 155 5) (I 155 4) (I 157) (cpF (I 159) (I 156))) (chQ (I 155 5) (I 155 4)) (cpF (I 159) (I 156)) (I 158)) 156 (gvS (I 156) n m nc name one other)) P (n : Int) 0 (by omega) (by omega) (by omega) (by omega)) ?_
              refine r_iload_n (d := mX6_order) (pc := 120) (i := 1) (v := what) dX6_order_120 rfl rfl ?_
              refine r_iasts (d := mX6_order) (pc := 121) (a := 156) (lay0, arS (mdB I (chP (I 155 5) (I 155 4) (I 157) (cpF (I 159) (I 156))) (chQ (I 155 5) (I 155 4)) (cpF (I 159) (I 156)) (I 158)) 156 (fset (gvS (I 156) n m nc name one other) (111 + 7 * (n : Int) + 0) what), P) dX6_order_121 ly156 (by omega) (by omega) (memE (arS_up _ _ _ _ _)) ?_
              refine r_aload_n (d := mX6_order) (pc := 122) (i := 0) (v := 155) dX6_order_122 rfl rfl ?_
              refine r_getRs (d := mX6_order) (pc := 123) (a := 155) (kd := 6) (j := 0) (x := 156) dX6_order_123 flRX6_7 ly155 (by decide) (by decide) rfl hM.1 ?_
              refine r_iload (d := mX6_order) (pc := 126) (i := 6) (v := (n : Int)) dX6_order_126 rfl ?_
              refine r_iconst (d := mX6_order) (pc := 128) (n := 1) dX6_order_128 ?_
              refine r_cS2 (d := mX6_order) (pc := 129) (dj := mX6_ofOrder) dX6_order_129 mlRX6_47 staX6_ofOrder okX6_ofOrder (by decide) rfl (Nat.le_of_ble_eq_true rfl) (by decide) (by decide) (Fn_X6_ofOrder (k + 6) (arS (mdB I (chP (I 155 5) (I 155 4) (I 157) (cpF (I 159) (I 156))) (chQ (I 155 5) (I 155 4)) (cpF (I 159) (I 156)) (I 158)) 156 (fset (gvS (I 156) n m nc name one other) (111 + 7 * (n : Int) + 0) what)) P (n : Int) 1 (by omega) (by omega) (by omega) (by omega)) ?_
              refine r_iload (d := mX6_order) (pc := 132) (i := 5) (v := gvV (I 156) n m nc name one other) dX6_order_132 rfl ?_
              refine r_iasts (d := mX6_order) (pc := 134) (a := 156) (lay0, arS (mdB I (chP (I 155 5) (I 155 4) (I 157) (cpF (I 159) (I 156))) (chQ (I 155 5) (I 155 4)) (cpF (I 159) (I 156)) (I 158)) 156 (fset (fset (gvS (I 156) n m nc name one other) (111 + 7 * (n : Int) + 0) what) (111 + 7 * (n : Int) + 1) (gvV (I 156) n m nc name one other)), P) dX6_order_134 ly156 (by omega) (by omega) (memE (arS_up _ _ _ _ _)) ?_
              refine r_aload_n (d := mX6_order) (pc := 135) (i := 0) (v := 155) dX6_order_135 rfl rfl ?_
              refine r_getRs (d := mX6_order) (pc := 136) (a := 155) (kd := 6) (j := 0) (x := 156) dX6_order_136 flRX6_7 ly155 (by decide) (by decide) rfl hM.1 ?_
              refine r_iload (d := mX6_order) (pc := 139) (i := 6) (v := (n : Int)) dX6_order_139 rfl ?_
              refine r_iconst (d := mX6_order) (pc := 141) (n := 4) dX6_order_141 ?_
              refine r_cS2 (d := mX6_order) (pc := 142) (dj := mX6_ofOrder) dX6_order_142 mlRX6_47 staX6_ofOrder okX6_ofOrder (by decide) rfl (Nat.le_of_ble_eq_true rfl) (by decide) (by decide) (Fn_X6_ofOrder (k + 6) (arS (mdB I (chP (I 155 5) (I 155 4) (I 157) (cpF (I 159) (I 156))) (chQ (I 155 5) (I 155 4)) (cpF (I 159) (I 156)) (I 158)) 156 (fset (fset (gvS (I 156) n m nc name one other) (111 + 7 * (n : Int) + 0) what) (111 + 7 * (n : Int) + 1) (gvV (I 156) n m nc name one other))) P (n : Int) 4 (by omega) (by omega) (by omega) (by omega)) ?_
              refine r_iconst (d := mX6_order) (pc := 145) (n := (-1)) dX6_order_145 ?_
              refine r_iasts (d := mX6_order) (pc := 146) (a := 156) (lay0, arS (mdB I (chP (I 155 5) (I 155 4) (I 157) (cpF (I 159) (I 156))) (chQ (I 155 5) (I 155 4)) (cpF (I 159) (I 156)) (I 158)) 156 (fset (fset (fset (gvS (I 156) n m nc name one other) (111 + 7 * (n : Int) + 0) what) (111 + 7 * (n : Int) + 1) (gvV (I 156) n m nc name one other)) (111 + 7 * (n : Int) + 4) (-1)), P) dX6_order_146 ly156 (by omega) (by omega) (memE (arS_up _ _ _ _ _)) ?_
              refine r_aload_n (d := mX6_order) (pc := 147) (i := 0) (v := 155) dX6_order_147 rfl rfl ?_
              refine r_getRs (d := mX6_order) (pc := 148) (a := 155) (kd := 6) (j := 0) (x := 156) dX6_order_148 flRX6_7 ly155 (by decide) (by decide) rfl hM.1 ?_
              refine r_iload (d := mX6_order) (pc := 151) (i := 6) (v := (n : Int)) dX6_order_151 rfl ?_
              refine r_iconst (d := mX6_order) (pc := 153) (n := 5) dX6_order_153 ?_
              refine r_cS2 (d := mX6_order) (pc := 154) (dj := mX6_ofOrder) dX6_order_154 mlRX6_47 staX6_ofOrder okX6_ofOrder (by decide) rfl (Nat.le_of_ble_eq_true rfl) (by decide) (by decide) (Fn_X6_ofOrder (k + 6) (arS (mdB I (chP (I 155 5) (I 155 4) (I 157) (cpF (I 159) (I 156))) (chQ (I 155 5) (I 155 4)) (cpF (I 159) (I 156)) (I 158)) 156 (fset (fset (fset (gvS (I 156) n m nc name one other) (111 + 7 * (n : Int) + 0) what) (111 + 7 * (n : Int) + 1) (gvV (I 156) n m nc name one other)) (111 + 7 * (n : Int) + 4) (-1))) P (n : Int) 5 (by omega) (by omega) (by omega) (by omega)) ?_
              refine r_aload_n (d := mX6_order) (pc := 157) (i := 0) (v := 155) dX6_order_157 rfl rfl ?_
              refine r_getRs (d := mX6_order) (pc := 158) (a := 155) (kd := 6) (j := 0) (x := 156) dX6_order_158 flRX6_7 ly155 (by decide) (by decide) rfl hM.1 ?_
              refine r_iconst (d := mX6_order) (pc := 161) (n := 2) dX6_order_161 ?_
              refine r_ialds (d := mX6_order) (pc := 162) (a := 156) (x := (m : Int)) dX6_order_162 ly156 (by decide) (by decide) (by show (fset (fset (fset (gvS (I 156) n m nc name one other) (111 + 7 * (n : Int) + 0) what) (111 + 7 * (n : Int) + 1) (gvV (I 156) n m nc name one other)) (111 + 7 * (n : Int) + 4) (-1)) 2 = _; rw [fset_ne _ _ (by omega), fset_ne _ _ (by omega), fset_ne _ _ (by omega), gvS_lo _ _ _ _ _ _ _ (by omega) (by omega) (by omega) (by omega) (by omega) (by omega) (by omega) (fun g1 g2 => ⟨(hfg g1 g2).1.1, (hfg g1 g2).2.1⟩)]; exact hm) ?_
              refine r_iasts (d := mX6_order) (pc := 163) (a := 156) (lay0, arS (mdB I (chP (I 155 5) (I 155 4) (I 157) (cpF (I 159) (I 156))) (chQ (I 155 5) (I 155 4)) (cpF (I 159) (I 156)) (I 158)) 156 (fset (fset (fset (fset (gvS (I 156) n m nc name one other) (111 + 7 * (n : Int) + 0) what) (111 + 7 * (n : Int) + 1) (gvV (I 156) n m nc name one other)) (111 + 7 * (n : Int) + 4) (-1)) (111 + 7 * (n : Int) + 5) (m : Int)), P) dX6_order_163 ly156 (by omega) (by omega) (memE (arS_up _ _ _ _ _)) ?_
              refine r_aload_n (d := mX6_order) (pc := 164) (i := 0) (v := 155) dX6_order_164 rfl rfl ?_
              refine r_getRs (d := mX6_order) (pc := 165) (a := 155) (kd := 6) (j := 0) (x := 156) dX6_order_165 flRX6_7 ly155 (by decide) (by decide) rfl hM.1 ?_
              refine r_iconst (d := mX6_order) (pc := 168) (n := 3) dX6_order_168 ?_
              refine r_dup2 (d := mX6_order) (pc := 169) dX6_order_169 ?_
              refine r_ialds (d := mX6_order) (pc := 170) (a := 156) (x := (n : Int)) dX6_order_170 ly156 (by decide) (by decide) (by show (fset (fset (fset (fset (gvS (I 156) n m nc name one other) (111 + 7 * (n : Int) + 0) what) (111 + 7 * (n : Int) + 1) (gvV (I 156) n m nc name one other)) (111 + 7 * (n : Int) + 4) (-1)) (111 + 7 * (n : Int) + 5) (m : Int)) 3 = _; rw [fset_ne _ _ (by omega), fset_ne _ _ (by omega), fset_ne _ _ (by omega), fset_ne _ _ (by omega), gvS_lo _ _ _ _ _ _ _ (by omega) (by omega) (by omega) (by omega) (by omega) (by omega) (by omega) (fun g1 g2 => ⟨(hfg g1 g2).1.1, (hfg g1 g2).2.1⟩)]; exact hn) ?_
              refine r_iconst (d := mX6_order) (pc := 171) (n := 1) dX6_order_171 ?_
              refine r_iadd (d := mX6_order) (pc := 172) dX6_order_172 ?_
              refine r_iasts (d := mX6_order) (pc := 173) (a := 156) (lay0, arS (mdB I (chP (I 155 5) (I 155 4) (I 157) (cpF (I 159) (I 156))) (chQ (I 155 5) (I 155 4)) (cpF (I 159) (I 156)) (I 158)) 156 (fset (fset (fset (fset (fset (gvS (I 156) n m nc name one other) (111 + 7 * (n : Int) + 0) what) (111 + 7 * (n : Int) + 1) (gvV (I 156) n m nc name one other)) (111 + 7 * (n : Int) + 4) (-1)) (111 + 7 * (n : Int) + 5) (m : Int)) 3 ((n : Int) + 1)), P) dX6_order_173 ly156 (by decide) (by decide) (memE (arS_up _ _ _ _ _)) ?_
              refine r_iload (d := mX6_order) (pc := 174) (i := 5) (v := gvV (I 156) n m nc name one other) dX6_order_174 rfl ?_
              exact r_iret (d := mX6_order) (pc := 176) dX6_order_176 rfl (rtI (by rw [omV, if_neg (by omega), if_neg (by omega), if_neg (by omega)]) (by refine memE ?_; rw [omI, if_neg (by omega), if_neg (by omega), omX]; rfl)) (by decide) (by decide)
            · refine r_aload_n (d := mX6_order) (pc := 70) (i := 0) (v := 155) dX6_order_70 rfl rfl ?_
              refine r_getRs (d := mX6_order) (pc := 71) (a := 155) (kd := 6) (j := 3) (x := 159) dX6_order_71 flRX6_19 ly155 (by decide) (by decide) rfl hM.2.2.2.1 ?_
              refine r_aload_n (d := mX6_order) (pc := 74) (i := 0) (v := 155) dX6_order_74 rfl rfl ?_
              refine r_getRs (d := mX6_order) (pc := 75) (a := 155) (kd := 6) (j := 0) (x := 156) dX6_order_75 flRX6_7 ly155 (by decide) (by decide) rfl hM.1 ?_
              refine r_cS2 (d := mX6_order) (pc := 78) (dj := mX6_copies) dX6_order_78 mlRX6_88 staX6_copies okX6_copies (by decide) rfl (Nat.le_of_ble_eq_true rfl) (by decide) (by decide) (Fn_X6_copies (k + 6) (arS (mdB I (I 157) (I 155 4) (cpF (I 159) (I 156)) (I 158)) 156 (gvS (I 156) n m nc name one other)) P 159 156 ly159 ly156 (by decide)) ?_
              refine wpE (lv' := [(0, .inr (some 155)), (1, .inl what), (2, .inl name), (3, .inl one), (4, .inl other), (5, .inl (gvV (I 156) n m nc name one other))]) (st' := []) (M' := (lay0, arS (mdB I (I 157) (I 155 4) (cpF (I 159) (I 156)) (I 158)) 156 (cpF (gvS (I 156) n m nc name one other) (cpF (I 159) (I 156))), P)) rfl rfl (by refine memE ?_; exact mdB_cp156 _ _ _ _ _ _ _) ?_
              refine r_iload (d := mX6_order) (pc := 81) (i := 5) (v := gvV (I 156) n m nc name one other) dX6_order_81 rfl ?_
              refine r_if_ge (d := mX6_order) (pc := 83) (tgt := 91) dX6_order_83 (by decide) (fun h83 => ?_) (fun h83 => ?_)
              · refine r_bipush (d := mX6_order) (pc := 91) (n := (-3)) dX6_order_91 ?_
                exact r_iret (d := mX6_order) (pc := 93) dX6_order_93 rfl (rtI (by rw [omV, if_neg (by omega), if_neg (by omega), if_pos (by omega)]) (by refine memE ?_; rw [omI, if_neg (by omega), if_pos (by omega)]; rfl)) (by decide) (by decide)
              · refine r_bipush (d := mX6_order) (pc := 86) (n := (-2)) dX6_order_86 ?_
                refine r_goto (d := mX6_order) (pc := 88) (tgt := 93) dX6_order_88 (by decide) ?_
                exact r_iret (d := mX6_order) (pc := 93) dX6_order_93 rfl (rtI (by rw [omV, if_neg (by omega), if_pos (by omega)]) (by refine memE ?_; rw [omI, if_neg (by omega), if_pos (by omega)]; rfl)) (by decide) (by decide)
        · refine r_iconst (d := mX6_order) (pc := 31) (n := (-1)) dX6_order_31 ?_
          exact r_iret (d := mX6_order) (pc := 32) dX6_order_32 rfl (rtI (by rw [omV, if_pos (by omega)]) (by refine memE ?_; rw [omI, if_pos (by omega)])) (by decide) (by decide)
