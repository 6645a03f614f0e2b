/-! ===== the model: a change begins; a new beginning; values ===== -/
theorem guM_lo (s : Int → Int) (n m nc : Nat) (name : Int) {i : Int} (h : i < 12) (h0 : 0 ≤ name) : guM s n m nc name i = s i := by
  unfold guM
  rw [frM_lo _ _ _ _ (by omega), fset_ne _ _ (by omega)]
theorem ikS_lo (s : Int → Int) (c v : Int) {i : Int} (h : i < 12) (h0 : 0 ≤ c) : ikS s c v i = s i := by
  unfold ikS
  rw [fset_ne _ _ (by omega), fset_ne _ _ (by omega), fset_ne _ _ (by omega)]
theorem siS_lo (s : Int → Int) (n m nc : Nat) (name one other : Int) {i : Int} (h : i < 12) (h5 : i ≠ 5) (h6 : i ≠ 6) (h0 : 0 ≤ name) : siS s n m nc name one other i = s i := by
  have hc := cfV_rng s n m nc one other
  unfold siS
  split
  · rfl
  · split
    · exact getS_ne _ _ _ _ _ _ _ h h5 h0
    · unfold stX
      rw [fset_ne _ _ (by omega), fset_ne _ _ (by omega), fset_ne _ _ (by omega), fset_ne _ _ h6]
      exact getS_ne _ _ _ _ _ _ _ h h5 h0
theorem cp159_0 (I : mIt) : cpy I 159 153 (I 156) = arS (mdB I (I 157) (I 155 4) (cpF (I 159) (I 156)) (I 158)) 156 (I 156) := by
  have h := mdB_cp159 I (I 157) (I 155 4) (I 159) (I 158) (I 156) (I 156)
  rw [← h]
  rw [← mdB_eq, arS_self]
theorem cp158_0 (I : mIt) : cpy I 158 153 (I 156) = arS (mdB I (I 157) (I 155 4) (I 159) (cpF (I 158) (I 156))) 156 (I 156) := by
  have h := mdB_cp158 I (I 157) (I 155 4) (I 159) (I 158) (I 156) (I 156)
  rw [← h]
  rw [← mdB_eq, arS_self]
def chI (I : mIt) (f : Int → Int) : mIt := mUp (arS I 157 (chP (I 155 5) (I 155 4) (I 157) f)) 155 4 (chQ (I 155 5) (I 155 4))
theorem chI_md (I : mIt) (p : Int → Int) (q : Int) (t h s f : Int → Int) : chI (arS (mdB I p q t h) 156 s) f = arS (mdB I (chP (I 155 5) q p f) (chQ (I 155 5) q) t h) 156 s := by
  funext x
  have e5 : arS (mdB I p q t h) 156 s 155 5 = I 155 5 := rfl
  have e4 : arS (mdB I p q t h) 156 s 155 4 = q := rfl
  have e7 : arS (mdB I p q t h) 156 s 157 = p := rfl
  unfold chI
  rw [e5, e4, e7, mdB_x]
  unfold mUp
  by_cases h5 : x = 155
  · subst h5
    simp only [if_true, arS_ne _ _ (show (155 : Nat) ≠ 157 by decide)]
    rw [mdB_x]
    simp [fset_fset]
  · rw [if_neg h5]
    by_cases h7 : x = 157
    · subst h7
      rw [arS_at]; simp
    · rw [arS_ne _ _ h7, mdB_x]
      simp [h5, h7]
def chp1 (q : Int) (p : Int → Int) : Int → Int := if q = 4 then shP p else p
def chq1 (q : Int) : Int := if q = 4 then 3 else q
theorem chq1_rng {q : Int} (h : 0 ≤ q ∧ q ≤ 4) : 0 ≤ chq1 q ∧ chq1 q ≤ 3 := by unfold chq1; split <;> omega
theorem arS_mUp_comm (I : mIt) {a b : Nat} (h : a ≠ b) (f : Int → Int) (i v : Int) : mUp (arS I a f) b i v = arS (mUp I b i v) a f := by
  funext x
  unfold mUp arS
  by_cases h1 : x = b
  · subst h1
    simp [Ne.symm h]
  · simp [h1]
theorem md_in (I : mIt) (p : Int → Int) (q q1 : Int) (j : Nat) (f : Int → Int) : mUp (mUp (arS I 157 (inP p q1 j f)) 155 4 q) 157 (153 * q1 + (j : Int)) (f j) = mUp (arS I 157 (inP p q1 (j + 1) f)) 155 4 q := by
  rw [arS_mUp_comm _ (by decide), arS_up, inP_s, ← arS_mUp_comm _ (by decide)]
set_option maxRecDepth 20000 in
set_option maxHeartbeats 4000000 in
theorem Fn_X6_changes (k : Nat) (I : mIt) (P : mPt) (hM : isMd P) (hq : 0 ≤ I 155 4 ∧ I 155 4 ≤ 4) (f : Nat) (hf : lay0[f]? = some (10, 153)) (hf7 : f ≠ 157) (hf5 : f ≠ 155) : WP (k + 0) mX6_changes none (0, 0) (Rt none (lay0, chI I (I f), P)) 0 [(0, .inr (some 155)), (1, .inr (some f))] [] (lay0, I, P) := by
  have hq1 := chq1_rng hq
  refine r_aload_n (d := mX6_changes) (pc := 0) (i := 0) (v := 155) dX6_changes_0 rfl rfl ?_
  refine r_getIs (d := mX6_changes) (pc := 1) (a := 155) (kd := 6) (j := 5) (x := (I 155 5)) dX6_changes_1 flRX6_35 ly155 (by decide) (by decide) rfl (rfl) ?_
  refine r_if_eq (d := mX6_changes) (pc := 4) (tgt := 8) dX6_changes_4 (by decide) (fun h4 => ?_) (fun h4 => ?_)
  · refine r_aload_n (d := mX6_changes) (pc := 8) (i := 0) (v := 155) dX6_changes_8 rfl rfl ?_
    refine r_getIs (d := mX6_changes) (pc := 9) (a := 155) (kd := 6) (j := 4) (x := (I 155 4)) dX6_changes_9 flRX6_39 ly155 (by decide) (by decide) rfl (rfl) ?_
    refine r_iconst (d := mX6_changes) (pc := 12) (n := 4) dX6_changes_12 ?_
    have T57 : WP (k + 0) mX6_changes none (0, 0) (Rt none (lay0, chI I (I f), P)) 57 [(0, .inr (some 155)), (1, .inr (some f))] [] (lay0, mUp (arS I 157 (chp1 (I 155 4) (I 157))) 155 4 (chq1 (I 155 4)), P) := by
      refine r_iconst (d := mX6_changes) (pc := 57) (n := 0) dX6_changes_57 ?_
      refine r_istore_n (d := mX6_changes) (pc := 58) (i := 2) (lv' := [(0, .inr (some 155)), (1, .inr (some f)), (2, .inl 0)]) dX6_changes_58 rfl (by decide) rfl rfl ?_
      have L59 : ∀ j : Nat, j ≤ 153 → WP (k + 0) mX6_changes none (0, 0) (Rt none (lay0, chI I (I f), P)) 59 [(0, .inr (some 155)), (1, .inr (some f)), (2, .inl (j : Int))] [] (lay0, mUp (arS I 157 (inP (chp1 (I 155 4) (I 157)) (chq1 (I 155 4)) j (I f))) 155 4 (chq1 (I 155 4)), P) := by
        refine loopN (153) _ (fun j ih59 hj59 => ?_)
        refine r_iload_n (d := mX6_changes) (pc := 59) (i := 2) (v := (j : Int)) dX6_changes_59 rfl rfl ?_
        refine r_sipush (d := mX6_changes) (pc := 60) (n := 153) dX6_changes_60 ?_
        refine r_icmp_ge (d := mX6_changes) (pc := 63) (tgt := 90) dX6_changes_63 (by decide) (fun h63 => ?_) (fun h63 => ?_)
        · refine r_aload_n (d := mX6_changes) (pc := 90) (i := 0) (v := 155) dX6_changes_90 rfl rfl ?_
          refine r_dup (d := mX6_changes) (pc := 91) dX6_changes_91 ?_
          refine r_getIs (d := mX6_changes) (pc := 92) (a := 155) (kd := 6) (j := 4) (x := (chq1 (I 155 4))) dX6_changes_92 flRX6_39 ly155 (by decide) (by decide) rfl (rfl) ?_
          refine r_iconst (d := mX6_changes) (pc := 95) (n := 1) dX6_changes_95 ?_
          refine r_iadd (d := mX6_changes) (pc := 96) dX6_changes_96 ?_
          refine r_putIs (d := mX6_changes) (pc := 97) (a := 155) (kd := 6) (j := 4) (lay0, mUp (mUp (arS I 157 (inP (chp1 (I 155 4) (I 157)) (chq1 (I 155 4)) j (I f))) 155 4 (chq1 (I 155 4))) 155 4 ((chq1 (I 155 4)) + 1), P) dX6_changes_97 flRX6_39 ly155 (by decide) (by decide) rfl rfl (Or.inl rfl) rfl ?_
          exact r_ret (d := mX6_changes) (pc := 100) dX6_changes_100 rfl (rtV (by refine memE ?_; rw [show j = 153 by omega, mUp_mUp, chI, chP, chQ, if_pos h4, if_pos h4, chp1, chq1]; split <;> rfl)) (by decide) (by decide)
        · refine r_aload_n (d := mX6_changes) (pc := 66) (i := 0) (v := 155) dX6_changes_66 rfl rfl ?_
          refine r_getRs (d := mX6_changes) (pc := 67) (a := 155) (kd := 6) (j := 1) (x := 157) dX6_changes_67 flRX6_13 ly155 (by decide) (by decide) rfl hM.2.1 ?_
          refine r_sipush (d := mX6_changes) (pc := 70) (n := 153) dX6_changes_70 ?_
          refine r_aload_n (d := mX6_changes) (pc := 73) (i := 0) (v := 155) dX6_changes_73 rfl rfl ?_
          refine r_getIs (d := mX6_changes) (pc := 74) (a := 155) (kd := 6) (j := 4) (x := (chq1 (I 155 4))) dX6_changes_74 flRX6_39 ly155 (by decide) (by decide) rfl (rfl) ?_
          refine r_imul (d := mX6_changes) (pc := 77) dX6_changes_77 ?_
          refine r_iload_n (d := mX6_changes) (pc := 78) (i := 2) (v := (j : Int)) dX6_changes_78 rfl rfl ?_
          refine r_iadd (d := mX6_changes) (pc := 79) dX6_changes_79 ?_
          refine r_aload_n (d := mX6_changes) (pc := 80) (i := 1) (v := f) dX6_changes_80 rfl rfl ?_
          refine r_iload_n (d := mX6_changes) (pc := 81) (i := 2) (v := (j : Int)) dX6_changes_81 rfl rfl ?_
          refine r_ialds (d := mX6_changes) (pc := 82) (a := f) (x := (I f (j : Int))) dX6_changes_82 hf (by omega) (by omega) (by show (mUp (arS I 157 (inP (chp1 (I 155 4) (I 157)) (chq1 (I 155 4)) j (I f))) 155 4 (chq1 (I 155 4))) f _ = _; rw [mUp_ne _ _ _ hf5, arS_ne _ _ hf7]) ?_
          refine r_iasts (d := mX6_changes) (pc := 83) (a := 157) (lay0, mUp (mUp (arS I 157 (inP (chp1 (I 155 4) (I 157)) (chq1 (I 155 4)) j (I f))) 155 4 (chq1 (I 155 4))) 157 ((153 * (chq1 (I 155 4))) + (j : Int)) (I f (j : Int)), P) dX6_changes_83 ly157 (by omega) (by omega) rfl ?_
          refine r_iinc (d := mX6_changes) (pc := 84) (i := 2) (v := (j : Int)) (y := ((j + 1 : Nat) : Int)) (lv' := [(0, .inr (some 155)), (1, .inr (some f)), (2, .inl ((j + 1 : Nat) : Int))]) dX6_changes_84 rfl (by decide) rfl (by omega) rfl ?_
          refine r_goto (d := mX6_changes) (pc := 87) (tgt := 59) dX6_changes_87 (by decide) ?_
          exact wpE (by simp) rfl (by refine memE ?_; exact md_in _ _ _ _ _ _) (ih59 (by omega) (by omega))
      exact wpE (by simp) rfl (by rw [inP_0]) (L59 0 (by omega))
    refine r_icmp_ne (d := mX6_changes) (pc := 13) (tgt := 57) dX6_changes_13 (by decide) (fun h13 => ?_) (fun h13 => ?_)
    · exact wpE (by rfl) (by rfl) (by refine memE ?_; rw [chp1, chq1, if_neg h13, if_neg h13, arS_self, mUp_self _ rfl]) T57
    · refine r_iconst (d := mX6_changes) (pc := 16) (n := 0) dX6_changes_16 ?_
      refine r_istore_n (d := mX6_changes) (pc := 17) (i := 2) (lv' := [(0, .inr (some 155)), (1, .inr (some f)), (2, .inl 0)]) dX6_changes_17 rfl (by decide) rfl rfl ?_
      have L18 : ∀ j : Nat, j ≤ 459 → WP (k + 0) mX6_changes none (0, 0) (Rt none (lay0, chI I (I f), P)) 18 [(0, .inr (some 155)), (1, .inr (some f)), (2, .inl (j : Int))] [] (lay0, cpy I 157 j (fun k => I 157 (k + 153)), P) := by
        refine loopN (459) _ (fun j ih18 hj18 => ?_)
        refine r_iload_n (d := mX6_changes) (pc := 18) (i := 2) (v := (j : Int)) dX6_changes_18 rfl rfl ?_
        refine r_sipush (d := mX6_changes) (pc := 19) (n := 459) dX6_changes_19 ?_
        refine r_icmp_ge (d := mX6_changes) (pc := 22) (tgt := 47) dX6_changes_22 (by decide) (fun h22 => ?_) (fun h22 => ?_)
        · refine r_aload_n (d := mX6_changes) (pc := 47) (i := 0) (v := 155) dX6_changes_47 rfl rfl ?_
          refine r_dup (d := mX6_changes) (pc := 48) dX6_changes_48 ?_
          refine r_getIs (d := mX6_changes) (pc := 49) (a := 155) (kd := 6) (j := 4) (x := (I 155 4)) dX6_changes_49 flRX6_39 ly155 (by decide) (by decide) rfl (rfl) ?_
          refine r_iconst (d := mX6_changes) (pc := 52) (n := 1) dX6_changes_52 ?_
          refine r_isub (d := mX6_changes) (pc := 53) dX6_changes_53 ?_
          refine r_putIs (d := mX6_changes) (pc := 54) (a := 155) (kd := 6) (j := 4) (lay0, mUp (cpy I 157 j (fun k => I 157 (k + 153))) 155 4 ((I 155 4) - 1), P) dX6_changes_54 flRX6_39 ly155 (by decide) (by decide) rfl rfl (Or.inl rfl) rfl ?_
          refine WP.pick (lv' := [(0, .inr (some 155)), (1, .inr (some f))]) [0, 1] rfl ?_
          exact wpE (by rfl) (by rfl) (by refine memE ?_; rw [show j = 459 by omega, cpy_459, chp1, chq1, if_pos h13, if_pos h13, h13]; rfl) T57
        · refine r_aload_n (d := mX6_changes) (pc := 25) (i := 0) (v := 155) dX6_changes_25 rfl rfl ?_
          refine r_getRs (d := mX6_changes) (pc := 26) (a := 155) (kd := 6) (j := 1) (x := 157) dX6_changes_26 flRX6_13 ly155 (by decide) (by decide) rfl hM.2.1 ?_
          refine r_iload_n (d := mX6_changes) (pc := 29) (i := 2) (v := (j : Int)) dX6_changes_29 rfl rfl ?_
          refine r_aload_n (d := mX6_changes) (pc := 30) (i := 0) (v := 155) dX6_changes_30 rfl rfl ?_
          refine r_getRs (d := mX6_changes) (pc := 31) (a := 155) (kd := 6) (j := 1) (x := 157) dX6_changes_31 flRX6_13 ly155 (by decide) (by decide) rfl hM.2.1 ?_
          refine r_iload_n (d := mX6_changes) (pc := 34) (i := 2) (v := (j : Int)) dX6_changes_34 rfl rfl ?_
          refine r_sipush (d := mX6_changes) (pc := 35) (n := 153) dX6_changes_35 ?_
          refine r_iadd (d := mX6_changes) (pc := 38) dX6_changes_38 ?_
          refine r_ialds (d := mX6_changes) (pc := 39) (a := 157) (x := (I 157 ((j : Int) + 153))) dX6_changes_39 ly157 (by omega) (by omega) (by simp [cpy]; intros; omega) ?_
          refine r_iasts (d := mX6_changes) (pc := 40) (a := 157) (lay0, mUp (cpy I 157 j (fun k => I 157 (k + 153))) 157 (j : Int) (I 157 ((j : Int) + 153)), P) dX6_changes_40 ly157 (by omega) (by omega) rfl ?_
          refine r_iinc (d := mX6_changes) (pc := 41) (i := 2) (v := (j : Int)) (y := ((j + 1 : Nat) : Int)) (lv' := [(0, .inr (some 155)), (1, .inr (some f)), (2, .inl ((j + 1 : Nat) : Int))]) dX6_changes_41 rfl (by decide) rfl (by omega) rfl ?_
          refine r_goto (d := mX6_changes) (pc := 44) (tgt := 18) dX6_changes_44 (by decide) ?_
          exact wpE (by simp) rfl (by refine memE ?_; exact cpy_s _ _ _ _ _ rfl) (ih18 (by omega) (by omega))
      exact wpE (by simp) rfl (by rw [cpy_0]) (L18 0 (by omega))
  · exact r_ret (d := mX6_changes) (pc := 7) dX6_changes_7 rfl (rtV (by refine memE ?_; rw [chI, chP, chQ, if_neg h4, if_neg h4, arS_self, mUp_self _ rfl])) (by decide) (by decide)
set_option maxRecDepth 20000 in
set_option maxHeartbeats 4000000 in
theorem Fn_X6_clears (k : Nat) (I : mIt) (P : mPt) (hM : isMd P) (c : Int) : WP (k + 1) mX6_clears none (0, 0) (Rt none (lay0, arS I 156 (clS (I 156) c), P)) 0 [(0, .inr (some 155)), (1, .inl c)] [] (lay0, I, P) := by
  refine r_iconst (d := mX6_clears) (pc := 0) (n := 0) dX6_clears_0 ?_
  refine r_istore_n (d := mX6_clears) (pc := 1) (i := 2) (lv' := [(0, .inr (some 155)), (1, .inl c), (2, .inl 0)]) dX6_clears_1 rfl (by decide) rfl rfl ?_
  have L2 : ∀ j : Nat, j ≤ 153 → WP (k + 1) mX6_clears none (0, 0) (Rt none (lay0, arS I 156 (clS (I 156) c), P)) 2 [(0, .inr (some 155)), (1, .inl c), (2, .inl (j : Int))] [] (lay0, cpy I 156 j (fun k => if 8 ≤ k ∧ k ≤ 11 then I 156 k else if 12 ≤ k ∧ k ≤ 19 then -1 else 0), P) := by
    refine loopN (153) _ (fun j ih2 hj2 => ?_)
    refine r_iload_n (d := mX6_clears) (pc := 2) (i := 2) (v := (j : Int)) dX6_clears_2 rfl rfl ?_
    refine r_sipush (d := mX6_clears) (pc := 3) (n := 153) dX6_clears_3 ?_
    refine r_icmp_ge (d := mX6_clears) (pc := 6) (tgt := 57) dX6_clears_6 (by decide) (fun h6 => ?_) (fun h6 => ?_)
    · refine r_aload_n (d := mX6_clears) (pc := 57) (i := 0) (v := 155) dX6_clears_57 rfl rfl ?_
      refine r_getRs (d := mX6_clears) (pc := 58) (a := 155) (kd := 6) (j := 0) (x := 156) dX6_clears_58 flRX6_7 ly155 (by decide) (by decide) rfl hM.1 ?_
      refine r_iconst (d := mX6_clears) (pc := 61) (n := 0) dX6_clears_61 ?_
      refine r_iload_n (d := mX6_clears) (pc := 62) (i := 1) (v := c) dX6_clears_62 rfl rfl ?_
      refine r_iasts (d := mX6_clears) (pc := 63) (a := 156) (lay0, mUp (cpy I 156 j (fun k => if 8 ≤ k ∧ k ≤ 11 then I 156 k else if 12 ≤ k ∧ k ≤ 19 then -1 else 0)) 156 0 c, P) dX6_clears_63 ly156 (by decide) (by decide) rfl ?_
      exact r_ret (d := mX6_clears) (pc := 64) dX6_clears_64 rfl (rtV (by refine memE ?_; rw [show j = 153 by omega]; exact arS_up _ _ _ _ _)) (by decide) (by decide)
    · refine r_aload_n (d := mX6_clears) (pc := 9) (i := 0) (v := 155) dX6_clears_9 rfl rfl ?_
      refine r_getRs (d := mX6_clears) (pc := 10) (a := 155) (kd := 6) (j := 0) (x := 156) dX6_clears_10 flRX6_7 ly155 (by decide) (by decide) rfl hM.1 ?_
      refine r_iload_n (d := mX6_clears) (pc := 13) (i := 2) (v := (j : Int)) dX6_clears_13 rfl rfl ?_
      refine r_iload_n (d := mX6_clears) (pc := 14) (i := 2) (v := (j : Int)) dX6_clears_14 rfl rfl ?_
      refine r_bipush (d := mX6_clears) (pc := 15) (n := 8) dX6_clears_15 ?_
      refine r_bipush (d := mX6_clears) (pc := 17) (n := 11) dX6_clears_17 ?_
      refine r_cS3 (d := mX6_clears) (pc := 19) (dj := mX6_in) dX6_clears_19 mlRX6_43 staX6_in okX6_in (by decide) rfl (Nat.le_of_ble_eq_true rfl) (by decide) (by decide) (Fn_X6_in k (cpy I 156 j (fun k => if 8 ≤ k ∧ k ≤ 11 then I 156 k else if 12 ≤ k ∧ k ≤ 19 then -1 else 0)) P   (j : Int) 8 11) ?_
      refine r_ifb_eq (d := mX6_clears) (pc := 22) (tgt := 34) dX6_clears_22 (by decide) (fun h22 => ?_) (fun h22 => ?_)
      · refine r_iload_n (d := mX6_clears) (pc := 34) (i := 2) (v := (j : Int)) dX6_clears_34 rfl rfl ?_
        refine r_bipush (d := mX6_clears) (pc := 35) (n := 12) dX6_clears_35 ?_
        refine r_bipush (d := mX6_clears) (pc := 37) (n := 19) dX6_clears_37 ?_
        refine r_cS3 (d := mX6_clears) (pc := 39) (dj := mX6_in) dX6_clears_39 mlRX6_43 staX6_in okX6_in (by decide) rfl (Nat.le_of_ble_eq_true rfl) (by decide) (by decide) (Fn_X6_in k (cpy I 156 j (fun k => if 8 ≤ k ∧ k ≤ 11 then I 156 k else if 12 ≤ k ∧ k ≤ 19 then -1 else 0)) P   (j : Int) 12 19) ?_
        refine r_ifb_eq (d := mX6_clears) (pc := 42) (tgt := 49) dX6_clears_42 (by decide) (fun h42 => ?_) (fun h42 => ?_)
        · refine r_iconst (d := mX6_clears) (pc := 49) (n := 0) dX6_clears_49 ?_
          refine r_iasts (d := mX6_clears) (pc := 50) (a := 156) (lay0, mUp (cpy I 156 j (fun k => if 8 ≤ k ∧ k ≤ 11 then I 156 k else if 12 ≤ k ∧ k ≤ 19 then -1 else 0)) 156 (j : Int) 0, P) dX6_clears_50 ly156 (by omega) (by omega) rfl ?_
          refine r_iinc (d := mX6_clears) (pc := 51) (i := 2) (v := (j : Int)) (y := ((j + 1 : Nat) : Int)) (lv' := [(0, .inr (some 155)), (1, .inl c), (2, .inl ((j + 1 : Nat) : Int))]) dX6_clears_51 rfl (by decide) rfl (by omega) rfl ?_
          refine r_goto (d := mX6_clears) (pc := 54) (tgt := 2) dX6_clears_54 (by decide) ?_
          exact wpE (by simp) rfl (by refine memE (cpy_s _ _ _ _ _ ?_); rw [if_neg h22, if_neg h42]) (ih2 (by omega) (by omega))
        · refine r_iconst (d := mX6_clears) (pc := 45) (n := (-1)) dX6_clears_45 ?_
          refine r_goto (d := mX6_clears) (pc := 46) (tgt := 50) dX6_clears_46 (by decide) ?_
          refine r_iasts (d := mX6_clears) (pc := 50) (a := 156) (lay0, mUp (cpy I 156 j (fun k => if 8 ≤ k ∧ k ≤ 11 then I 156 k else if 12 ≤ k ∧ k ≤ 19 then -1 else 0)) 156 (j : Int) (-1), P) dX6_clears_50 ly156 (by omega) (by omega) rfl ?_
          refine r_iinc (d := mX6_clears) (pc := 51) (i := 2) (v := (j : Int)) (y := ((j + 1 : Nat) : Int)) (lv' := [(0, .inr (some 155)), (1, .inl c), (2, .inl ((j + 1 : Nat) : Int))]) dX6_clears_51 rfl (by decide) rfl (by omega) rfl ?_
          refine r_goto (d := mX6_clears) (pc := 54) (tgt := 2) dX6_clears_54 (by decide) ?_
          exact wpE (by simp) rfl (by refine memE (cpy_s _ _ _ _ _ ?_); rw [if_neg h22, if_pos h42]) (ih2 (by omega) (by omega))
      · refine r_aload_n (d := mX6_clears) (pc := 25) (i := 0) (v := 155) dX6_clears_25 rfl rfl ?_
        refine r_getRs (d := mX6_clears) (pc := 26) (a := 155) (kd := 6) (j := 0) (x := 156) dX6_clears_26 flRX6_7 ly155 (by decide) (by decide) rfl hM.1 ?_
        refine r_iload_n (d := mX6_clears) (pc := 29) (i := 2) (v := (j : Int)) dX6_clears_29 rfl rfl ?_
        refine r_ialds (d := mX6_clears) (pc := 30) (a := 156) (x := (I 156 (j : Int))) dX6_clears_30 ly156 (by omega) (by omega) (by simp [cpy]) ?_
        refine r_goto (d := mX6_clears) (pc := 31) (tgt := 50) dX6_clears_31 (by decide) ?_
        refine r_iasts (d := mX6_clears) (pc := 50) (a := 156) (lay0, mUp (cpy I 156 j (fun k => if 8 ≤ k ∧ k ≤ 11 then I 156 k else if 12 ≤ k ∧ k ≤ 19 then -1 else 0)) 156 (j : Int) (I 156 (j : Int)), P) dX6_clears_50 ly156 (by omega) (by omega) rfl ?_
        refine r_iinc (d := mX6_clears) (pc := 51) (i := 2) (v := (j : Int)) (y := ((j + 1 : Nat) : Int)) (lv' := [(0, .inr (some 155)), (1, .inl c), (2, .inl ((j + 1 : Nat) : Int))]) dX6_clears_51 rfl (by decide) rfl (by omega) rfl ?_
        refine r_goto (d := mX6_clears) (pc := 54) (tgt := 2) dX6_clears_54 (by decide) ?_
        exact wpE (by simp) rfl (by refine memE (cpy_s _ _ _ _ _ ?_); rw [if_pos h22]) (ih2 (by omega) (by omega))
  exact wpE (by simp) rfl (by rw [cpy_0]) (L2 0 (by omega))
