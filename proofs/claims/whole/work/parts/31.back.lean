/-! ===== the model: back, markOf, names, ones ===== -/
theorem nmask_self (f : Int → Int) (w : Int) (n : Nat) : (Int32.ofInt (nmask f w n)).toInt = nmask f w n := by
  induction n with
  | zero => rfl
  | succ n ih =>
    unfold nmask
    split
    · unfold bOr; rw [Int32.ofInt_toInt]
    · exact ih
theorem nmask_or (f : Int → Int) (w : Int) (n : Nat) : bOr (nmask f w n) 0 = nmask f w n := by
  unfold bOr
  rw [show Int32.ofInt 0 = 0 from rfl, Int32.or_zero]
  exact nmask_self f w n
theorem bit01_256 : ∀ m : Nat, m < 256 → ∀ j : Nat, j < 8 → 0 ≤ bAnd (bShr (m : Int) (j : Int)) 1 ∧ bAnd (bShr (m : Int) (j : Int)) 1 ≤ 1 := by decide +kernel
theorem bit01 {x : Int} (h0 : 0 ≤ x) (h1 : x < 256) (j : Nat) (hj : j < 8) : 0 ≤ bAnd (bShr x (j : Int)) 1 ∧ bAnd (bShr x (j : Int)) 1 ≤ 1 := by
  obtain ⟨n, rfl⟩ : ∃ n : Nat, x = n := ⟨x.toNat, by omega⟩
  exact bit01_256 n (by omega) j hj
set_option maxRecDepth 20000 in
set_option maxHeartbeats 4000000 in
theorem Fn_X6_back (k : Nat) (I : mIt) (P : mPt) (hM : isMd P) (n : Nat) (hn : I 156 3 = n) (hn6 : n ≤ 6) (m : Nat) (hm : I 156 2 = m) (hm3 : m ≤ 3) (nc : Nat) (hc : I 156 0 = nc) (hc7 : nc ≤ 7) (hq : 0 ≤ I 155 4 ∧ I 155 4 ≤ 4) (y : Int) : WP (k + 4) mX6_back none (0, 0) (Rt (some (.inl (bkV (I 156) n m y))) (lay0, bkI I n m nc y, P)) 0 [(0, .inr (some 155)), (1, .inl y)] [] (lay0, I, P) := by
  refine r_aload_n (d := mX6_back) (pc := 0) (i := 0) (v := 155) dX6_back_0 rfl rfl ?_
  refine r_iload_n (d := mX6_back) (pc := 1) (i := 1) (v := y) dX6_back_1 rfl rfl ?_
  refine r_cV1 (d := mX6_back) (pc := 2) (dj := mX6_isMark) (a := 155) (kd := 6) dX6_back_2 mlRX6_120 inX6_isMark selX6_isMark rfl ly155 (by decide) okX6_isMark (by decide) rfl (Nat.le_of_ble_eq_true rfl) (by decide) (by decide) (Fn_X6_isMark (k + 3) I P hM  y) ?_
  refine r_ifb_ne (d := mX6_back) (pc := 5) (tgt := 10) dX6_back_5 (by decide) (fun h5 => ?_) (fun h5 => ?_)
  · refine r_aload_n (d := mX6_back) (pc := 10) (i := 0) (v := 155) dX6_back_10 rfl rfl ?_
    refine r_aload_n (d := mX6_back) (pc := 11) (i := 0) (v := 155) dX6_back_11 rfl rfl ?_
    refine r_getRs (d := mX6_back) (pc := 12) (a := 155) (kd := 6) (j := 0) (x := 156) dX6_back_12 flRX6_7 ly155 (by decide) (by decide) rfl hM.1 ?_
    refine r_cV1 (d := mX6_back) (pc := 15) (dj := mX6_changes) (a := 155) (kd := 6) dX6_back_15 mlRX6_81 inX6_changes selX6_changes rfl ly155 (by decide) okX6_changes (by decide) rfl (Nat.le_of_ble_eq_true rfl) (by decide) (by decide) (Fn_X6_changes (k + 3) I P hM hq 156 ly156 (by decide) (by decide)) ?_
    refine wpE (lv' := [(0, .inr (some 155)), (1, .inl y)]) (st' := []) (M' := (lay0, arS (mdB I (chP (I 155 5) (I 155 4) (I 157) (I 156)) (chQ (I 155 5) (I 155 4)) (I 159) (I 158)) 156 (I 156), P)) rfl rfl (by refine memE ?_; exact chI_0 _ _) ?_
    refine r_iconst (d := mX6_back) (pc := 18) (n := 0) dX6_back_18 ?_
    refine r_istore_n (d := mX6_back) (pc := 19) (i := 2) (lv' := [(0, .inr (some 155)), (1, .inl y), (2, .inl 0)]) dX6_back_19 rfl (by decide) rfl rfl ?_
    have L20 : ∀ j : Nat, j ≤ 16 → WP (k + 4) mX6_back none (0, 0) (Rt (some (.inl (bkV (I 156) n m y))) (lay0, bkI I n m nc y, P)) 20 [(0, .inr (some 155)), (1, .inl y), (2, .inl (j : Int))] [] (lay0, arS (mdB I (chP (I 155 5) (I 155 4) (I 157) (I 156)) (chQ (I 155 5) (I 155 4)) (I 159) (I 158)) 156 (bkC (I 156) y j), P) := by
      refine loopN (16) _ (fun j ih20 hj20 => ?_)
      refine r_iload_n (d := mX6_back) (pc := 20) (i := 2) (v := (j : Int)) dX6_back_20 rfl rfl ?_
      refine r_bipush (d := mX6_back) (pc := 21) (n := 16) dX6_back_21 ?_
      refine r_icmp_ge (d := mX6_back) (pc := 23) (tgt := 55) dX6_back_23 (by decide) (fun h23 => ?_) (fun h23 => ?_)
      · refine r_iconst (d := mX6_back) (pc := 55) (n := 0) dX6_back_55 ?_
        refine r_istore_n (d := mX6_back) (pc := 56) (i := 2) (lv' := [(0, .inr (some 155)), (1, .inl y), (2, .inl 0)]) dX6_back_56 rfl (by decide) rfl rfl ?_
        refine r_iconst (d := mX6_back) (pc := 57) (n := 0) dX6_back_57 ?_
        refine r_istore_n (d := mX6_back) (pc := 58) (i := 3) (lv' := [(0, .inr (some 155)), (1, .inl y), (2, .inl 0), (3, .inl 0)]) dX6_back_58 rfl (by decide) rfl rfl ?_
        have L59 : ∀ f : Nat, ∀ (t : Int → Int) (q z : Nat), q - z = f → z ≤ q → q ≤ n → t 3 = (q : Int) → bkD y n (bkC (I 156) y 16) n 0 = bkD y f t q z → WP (k + 4) mX6_back none (0, 0) (Rt (some (.inl (bkV (I 156) n m y))) (lay0, bkI I n m nc y, P)) 59 [(0, .inr (some 155)), (1, .inl y), (2, .inl ((n : Int) - (q : Int))), (3, .inl (z : Int))] [] (lay0, arS (mdB I (chP (I 155 5) (I 155 4) (I 157) (I 156)) (chQ (I 155 5) (I 155 4)) (I 159) (I 158)) 156 t, P) := by
          refine loopD _ (fun f ih59 t q z hf hzq hqn h3 hd => ?_)
          have hq6 : q ≤ 6 := by omega
          refine r_iload_n (d := mX6_back) (pc := 59) (i := 3) (v := (z : Int)) dX6_back_59 rfl rfl ?_
          refine r_aload_n (d := mX6_back) (pc := 60) (i := 0) (v := 155) dX6_back_60 rfl rfl ?_
          refine r_getRs (d := mX6_back) (pc := 61) (a := 155) (kd := 6) (j := 0) (x := 156) dX6_back_61 flRX6_7 ly155 (by decide) (by decide) rfl hM.1 ?_
          refine r_iconst (d := mX6_back) (pc := 64) (n := 3) dX6_back_64 ?_
          refine r_ialds (d := mX6_back) (pc := 65) (a := 156) (x := (q : Int)) dX6_back_65 ly156 (by decide) (by decide) (by show t 3 = _; rw [h3]) ?_
          refine r_icmp_ge (d := mX6_back) (pc := 66) (tgt := 100) dX6_back_66 (by decide) (fun h66 => ?_) (fun h66 => ?_)
          · refine r_aload_n (d := mX6_back) (pc := 100) (i := 0) (v := 155) dX6_back_100 rfl rfl ?_
            have hfin : bkD y n (bkC (I 156) y 16) n 0 = (t, q) := by rw [hd, show f = 0 by omega]; rfl
            have ht9 : t = bkT (I 156) n y := by unfold bkT; rw [hfin]
            have hq9 : q = bkN (I 156) n y := by unfold bkN; rw [hfin]
            have hj := bkT_inv (s := I 156) (n := n) y hn
            rw [ht9, hq9]
            refine WP.pick (lv' := [(0, .inr (some 155)), (1, .inl y), (2, .inl ((n : Int) - ((bkN (I 156) n y : Nat) : Int)))]) [0, 1, 2] rfl ?_
            refine r_getRs (d := mX6_back) (pc := 101) (a := 155) (kd := 6) (j := 0) (x := 156) dX6_back_101 flRX6_7 ly155 (by decide) (by decide) rfl hM.1 ?_
            refine r_iconst (d := mX6_back) (pc := 104) (n := 2) dX6_back_104 ?_
            refine r_iload_n (d := mX6_back) (pc := 105) (i := 1) (v := y) dX6_back_105 rfl rfl ?_
            refine r_iasts (d := mX6_back) (pc := 106) (a := 156) (lay0, arS (mdB I (chP (I 155 5) (I 155 4) (I 157) (I 156)) (chQ (I 155 5) (I 155 4)) (I 159) (I 158)) 156 (fset (bkT (I 156) n y) 2 y), P) dX6_back_106 ly156 (by decide) (by decide) (memE (arS_up _ _ _ _ _)) ?_
            refine r_aload_n (d := mX6_back) (pc := 107) (i := 0) (v := 155) dX6_back_107 rfl rfl ?_
            refine r_cV0 (d := mX6_back) (pc := 108) (dj := mX6_frees) (a := 155) (kd := 6) dX6_back_108 mlRX6_68 inX6_frees selX6_frees rfl ly155 (by decide) okX6_frees (by decide) rfl (Nat.le_of_ble_eq_true rfl) (by decide) (by decide) (Fn_X6_frees (k + 1) (arS (mdB I (chP (I 155 5) (I 155 4) (I 157) (I 156)) (chQ (I 155 5) (I 155 4)) (I 159) (I 158)) 156 (fset (bkT (I 156) n y) 2 y)) P hM (bkN (I 156) n y) (by show (fset (bkT (I 156) n y) 2 y) 3 = _; rw [fset_ne _ _ (by decide)]; exact hj.2.1) (by have := hj.2.2; omega) y.toNat (by show (fset (bkT (I 156) n y) 2 y) 2 = _; rw [fset_at]; omega) (by omega) nc (by show (fset (bkT (I 156) n y) 2 y) 0 = _; rw [fset_ne _ _ (by decide)]; exact (hj.1 0 (by decide) (by omega) (by decide)).trans hc) hc7) ?_
            refine wpE (lv' := [(0, .inr (some 155)), (1, .inl y), (2, .inl ((n : Int) - ((bkN (I 156) n y : Nat) : Int)))]) (st' := []) (M' := (lay0, arS (mdB I (chP (I 155 5) (I 155 4) (I 157) (I 156)) (chQ (I 155 5) (I 155 4)) (I 159) (I 158)) 156 (bkS (I 156) n m nc y), P)) rfl rfl (memE (arS_arS _ _ _ _)) ?_
            refine r_iload_n (d := mX6_back) (pc := 111) (i := 2) (v := ((n : Int) - ((bkN (I 156) n y : Nat) : Int))) dX6_back_111 rfl rfl ?_
            exact r_iret (d := mX6_back) (pc := 112) dX6_back_112 rfl (rtI (by first | (rw [bkV, if_pos (by omega)]; done) | (rw [bkV, if_neg (by omega)])) (by refine memE ?_; first | (rw [bkI, if_pos (by omega)]; rfl) | (rw [bkI, if_neg (by omega)]))) (by decide) (by decide)
          · refine r_aload_n (d := mX6_back) (pc := 69) (i := 0) (v := 155) dX6_back_69 rfl rfl ?_
            refine r_getRs (d := mX6_back) (pc := 70) (a := 155) (kd := 6) (j := 0) (x := 156) dX6_back_70 flRX6_7 ly155 (by decide) (by decide) rfl hM.1 ?_
            refine r_iload_n (d := mX6_back) (pc := 73) (i := 3) (v := (z : Int)) dX6_back_73 rfl rfl ?_
            refine r_iconst (d := mX6_back) (pc := 74) (n := 5) dX6_back_74 ?_
            refine r_cS2 (d := mX6_back) (pc := 75) (dj := mX6_ofOrder) dX6_back_75 mlRX6_47 staX6_ofOrder okX6_ofOrder (by decide) rfl (Nat.le_of_ble_eq_true rfl) (by decide) (by decide) (Fn_X6_ofOrder (k + 3) (arS (mdB I (chP (I 155 5) (I 155 4) (I 157) (I 156)) (chQ (I 155 5) (I 155 4)) (I 159) (I 158)) 156 t) P (z : Int) 5 (by omega) (by omega) (by omega) (by omega)) ?_
            refine r_ialds (d := mX6_back) (pc := 78) (a := 156) (x := (t (111 + 7 * (z : Int) + 5))) dX6_back_78 ly156 (by omega) (by omega) (rfl) ?_
            refine r_iload_n (d := mX6_back) (pc := 79) (i := 1) (v := y) dX6_back_79 rfl rfl ?_
            refine r_icmp_le (d := mX6_back) (pc := 80) (tgt := 94) dX6_back_80 (by decide) (fun h80 => ?_) (fun h80 => ?_)
            · refine r_iinc (d := mX6_back) (pc := 94) (i := 3) (v := (z : Int)) (y := ((z + 1 : Nat) : Int)) (lv' := [(0, .inr (some 155)), (1, .inl y), (2, .inl ((n : Int) - (q : Int))), (3, .inl ((z + 1 : Nat) : Int))]) dX6_back_94 rfl (by decide) rfl (by omega) rfl ?_
              refine r_goto (d := mX6_back) (pc := 97) (tgt := 59) dX6_back_97 (by decide) ?_
              exact wpE (by simp; try omega) rfl (by rfl) (ih59 (f - 1) (by omega) t q (z + 1) (by omega) (by omega) (by omega) h3 (by rw [hd]; conv => lhs; rw [show f = (f - 1) + 1 by omega, bkD, if_neg (by omega)]))
            · refine r_aload_n (d := mX6_back) (pc := 83) (i := 0) (v := 155) dX6_back_83 rfl rfl ?_
              refine r_iload_n (d := mX6_back) (pc := 84) (i := 3) (v := (z : Int)) dX6_back_84 rfl rfl ?_
              refine r_cV1 (d := mX6_back) (pc := 85) (dj := mX6_drops) (a := 155) (kd := 6) dX6_back_85 mlRX6_110 inX6_drops selX6_drops rfl ly155 (by decide) okX6_drops (by decide) rfl (Nat.le_of_ble_eq_true rfl) (by decide) (by decide) (Fn_X6_drops (k + 2) (arS (mdB I (chP (I 155 5) (I 155 4) (I 157) (I 156)) (chQ (I 155 5) (I 155 4)) (I 159) (I 158)) 156 t) P hM q z h3 hq6 (by omega)) ?_
              refine wpE (lv' := [(0, .inr (some 155)), (1, .inl y), (2, .inl ((n : Int) - (q : Int))), (3, .inl (z : Int))]) (st' := []) (M' := (lay0, arS (mdB I (chP (I 155 5) (I 155 4) (I 157) (I 156)) (chQ (I 155 5) (I 155 4)) (I 159) (I 158)) 156 (drS t q z), P)) rfl rfl (memE (arS_arS _ _ _ _)) ?_
              refine r_iinc (d := mX6_back) (pc := 88) (i := 2) (v := ((n : Int) - (q : Int))) (y := (((n : Int) - (q : Int)) + 1)) (lv' := [(0, .inr (some 155)), (1, .inl y), (2, .inl (((n : Int) - (q : Int)) + 1)), (3, .inl (z : Int))]) dX6_back_88 rfl (by decide) rfl rfl rfl ?_
              refine r_goto (d := mX6_back) (pc := 91) (tgt := 59) dX6_back_91 (by decide) ?_
              exact wpE (by simp; try omega) rfl (by rfl) (ih59 (f - 1) (by omega) (drS t q z) (q - 1) z (by omega) (by omega) (by omega) (by rw [drS_3]; omega) (by rw [hd, show f = (f - 1) + 1 by omega, bkD, if_pos (by omega)]; rfl))
        exact wpE (by simp) rfl (by refine memE ?_; rw [show j = 16 by omega]) (L59 n (bkC (I 156) y 16) n 0 (by omega) (by omega) (by omega) ((bkC_at _ _ _ (by omega)).trans hn) rfl)
      · refine r_aload_n (d := mX6_back) (pc := 26) (i := 0) (v := 155) dX6_back_26 rfl rfl ?_
        refine r_getRs (d := mX6_back) (pc := 27) (a := 155) (kd := 6) (j := 0) (x := 156) dX6_back_27 flRX6_7 ly155 (by decide) (by decide) rfl hM.1 ?_
        refine r_bipush (d := mX6_back) (pc := 30) (n := 12) dX6_back_30 ?_
        refine r_iload_n (d := mX6_back) (pc := 32) (i := 2) (v := (j : Int)) dX6_back_32 rfl rfl ?_
        refine r_iadd (d := mX6_back) (pc := 33) dX6_back_33 ?_
        refine r_aload_n (d := mX6_back) (pc := 34) (i := 0) (v := 155) dX6_back_34 rfl rfl ?_
        refine r_getRs (d := mX6_back) (pc := 35) (a := 155) (kd := 6) (j := 0) (x := 156) dX6_back_35 flRX6_7 ly155 (by decide) (by decide) rfl hM.1 ?_
        refine r_bipush (d := mX6_back) (pc := 38) (n := 63) dX6_back_38 ?_
        refine r_bipush (d := mX6_back) (pc := 40) (n := 16) dX6_back_40 ?_
        refine r_iload_n (d := mX6_back) (pc := 42) (i := 1) (v := y) dX6_back_42 rfl rfl ?_
        refine r_imul (d := mX6_back) (pc := 43) dX6_back_43 ?_
        refine r_iadd (d := mX6_back) (pc := 44) dX6_back_44 ?_
        refine r_iload_n (d := mX6_back) (pc := 45) (i := 2) (v := (j : Int)) dX6_back_45 rfl rfl ?_
        refine r_iadd (d := mX6_back) (pc := 46) dX6_back_46 ?_
        refine r_ialds (d := mX6_back) (pc := 47) (a := 156) (x := (I 156 ((63 + (16 * y)) + (j : Int)))) dX6_back_47 ly156 (by omega) (by omega) (by show (bkC (I 156) y j) ((63 + (16 * y)) + (j : Int)) = _; rw [bkC_at _ _ _ (by omega)]) ?_
        refine r_iasts (d := mX6_back) (pc := 48) (a := 156) (lay0, arS (mdB I (chP (I 155 5) (I 155 4) (I 157) (I 156)) (chQ (I 155 5) (I 155 4)) (I 159) (I 158)) 156 (fset (bkC (I 156) y j) (12 + (j : Int)) (I 156 ((63 + (16 * y)) + (j : Int)))), P) dX6_back_48 ly156 (by omega) (by omega) (memE (arS_up _ _ _ _ _)) ?_
        refine r_iinc (d := mX6_back) (pc := 49) (i := 2) (v := (j : Int)) (y := ((j + 1 : Nat) : Int)) (lv' := [(0, .inr (some 155)), (1, .inl y), (2, .inl ((j + 1 : Nat) : Int))]) dX6_back_49 rfl (by decide) rfl (by omega) rfl ?_
        refine r_goto (d := mX6_back) (pc := 52) (tgt := 20) dX6_back_52 (by decide) ?_
        exact wpE (by simp) rfl (by refine memE ?_; rw [← bkC_s]) (ih20 (by omega) (by omega))
    exact wpE (by simp) rfl (by refine memE ?_; rw [bkC_0]) (L20 0 (by omega))
  · refine r_iconst (d := mX6_back) (pc := 8) (n := (-1)) dX6_back_8 ?_
    exact r_iret (d := mX6_back) (pc := 9) dX6_back_9 rfl (rtI (by first | (rw [bkV, if_pos (by omega)]; done) | (rw [bkV, if_neg (by omega)])) (by refine memE ?_; first | (rw [bkI, if_pos (by omega)]; rfl) | (rw [bkI, if_neg (by omega)]))) (by decide) (by decide)
set_option maxRecDepth 20000 in
set_option maxHeartbeats 4000000 in
theorem Fn_X6_markOf (k : Nat) (I : mIt) (P : mPt) (hM : isMd P) (m : Nat) (hm : I 156 2 = m) (hm3 : m ≤ 3) (y nm r : Int) : WP (k + 5) mX6_markOf none (0, 0) (Rt (some (.inl (mkV (I 156) m y nm r))) (lay0, I, P)) 0 [(0, .inr (some 155)), (1, .inl y), (2, .inl nm), (3, .inl r)] [] (lay0, I, P) := by
  refine r_aload_n (d := mX6_markOf) (pc := 0) (i := 0) (v := 155) dX6_markOf_0 rfl rfl ?_
  refine r_iload_n (d := mX6_markOf) (pc := 1) (i := 1) (v := y) dX6_markOf_1 rfl rfl ?_
  refine r_cV1 (d := mX6_markOf) (pc := 2) (dj := mX6_isMark) (a := 155) (kd := 6) dX6_markOf_2 mlRX6_120 inX6_isMark selX6_isMark rfl ly155 (by decide) okX6_isMark (by decide) rfl (Nat.le_of_ble_eq_true rfl) (by decide) (by decide) (Fn_X6_isMark (k + 4) I P hM  y) ?_
  refine r_ifb_eq (d := mX6_markOf) (pc := 5) (tgt := 24) dX6_markOf_5 (by decide) (fun h5 => ?_) (fun h5 => ?_)
  · refine r_iconst (d := mX6_markOf) (pc := 24) (n := (-1)) dX6_markOf_24 ?_
    exact r_iret (d := mX6_markOf) (pc := 25) dX6_markOf_25 rfl (rtI (by rw [mkV, if_pos (by omega)]) (by rfl)) (by decide) (by decide)
  · refine r_iload_n (d := mX6_markOf) (pc := 8) (i := 2) (v := nm) dX6_markOf_8 rfl rfl ?_
    refine r_cS1 (d := mX6_markOf) (pc := 9) (dj := mX6_isName) dX6_markOf_9 mlRX6_85 staX6_isName okX6_isName (by decide) rfl (Nat.le_of_ble_eq_true rfl) (by decide) (by decide) (Fn_X6_isName (k + 3) I P   nm) ?_
    refine r_ifb_eq (d := mX6_markOf) (pc := 12) (tgt := 24) dX6_markOf_12 (by decide) (fun h12 => ?_) (fun h12 => ?_)
    · refine r_iconst (d := mX6_markOf) (pc := 24) (n := (-1)) dX6_markOf_24 ?_
      exact r_iret (d := mX6_markOf) (pc := 25) dX6_markOf_25 rfl (rtI (by rw [mkV, if_pos (by omega)]) (by rfl)) (by decide) (by decide)
    · refine r_iload_n (d := mX6_markOf) (pc := 15) (i := 3) (v := r) dX6_markOf_15 rfl rfl ?_
      refine r_iconst (d := mX6_markOf) (pc := 16) (n := 0) dX6_markOf_16 ?_
      refine r_iconst (d := mX6_markOf) (pc := 17) (n := 1) dX6_markOf_17 ?_
      refine r_cS3 (d := mX6_markOf) (pc := 18) (dj := mX6_in) dX6_markOf_18 mlRX6_43 staX6_in okX6_in (by decide) rfl (Nat.le_of_ble_eq_true rfl) (by decide) (by decide) (Fn_X6_in (k + 4) I P   r 0 1) ?_
      refine r_ifb_ne (d := mX6_markOf) (pc := 21) (tgt := 26) dX6_markOf_21 (by decide) (fun h21 => ?_) (fun h21 => ?_)
      · refine r_aload_n (d := mX6_markOf) (pc := 26) (i := 0) (v := 155) dX6_markOf_26 rfl rfl ?_
        refine r_getRs (d := mX6_markOf) (pc := 27) (a := 155) (kd := 6) (j := 0) (x := 156) dX6_markOf_27 flRX6_7 ly155 (by decide) (by decide) rfl hM.1 ?_
        refine r_bipush (d := mX6_markOf) (pc := 30) (n := 63) dX6_markOf_30 ?_
        refine r_bipush (d := mX6_markOf) (pc := 32) (n := 16) dX6_markOf_32 ?_
        refine r_iload_n (d := mX6_markOf) (pc := 34) (i := 1) (v := y) dX6_markOf_34 rfl rfl ?_
        refine r_imul (d := mX6_markOf) (pc := 35) dX6_markOf_35 ?_
        refine r_iadd (d := mX6_markOf) (pc := 36) dX6_markOf_36 ?_
        refine r_bipush (d := mX6_markOf) (pc := 37) (n := 8) dX6_markOf_37 ?_
        refine r_iload_n (d := mX6_markOf) (pc := 39) (i := 3) (v := r) dX6_markOf_39 rfl rfl ?_
        refine r_imul (d := mX6_markOf) (pc := 40) dX6_markOf_40 ?_
        refine r_iadd (d := mX6_markOf) (pc := 41) dX6_markOf_41 ?_
        refine r_iload_n (d := mX6_markOf) (pc := 42) (i := 2) (v := nm) dX6_markOf_42 rfl rfl ?_
        refine r_iadd (d := mX6_markOf) (pc := 43) dX6_markOf_43 ?_
        refine r_ialds (d := mX6_markOf) (pc := 44) (a := 156) (x := (I 156 (((63 + (16 * y)) + (8 * r)) + nm))) dX6_markOf_44 ly156 (by omega) (by omega) (rfl) ?_
        refine r_istore (d := mX6_markOf) (pc := 45) (i := 4) (lv' := [(0, .inr (some 155)), (1, .inl y), (2, .inl nm), (3, .inl r), (4, .inl (I 156 (((63 + (16 * y)) + (8 * r)) + nm)))]) dX6_markOf_45 (by decide) rfl rfl ?_
        refine r_iload_n (d := mX6_markOf) (pc := 47) (i := 3) (v := r) dX6_markOf_47 rfl rfl ?_
        refine r_if_ne (d := mX6_markOf) (pc := 48) (tgt := 61) dX6_markOf_48 (by decide) (fun h48 => ?_) (fun h48 => ?_)
        · refine r_iload (d := mX6_markOf) (pc := 61) (i := 4) (v := (I 156 (((63 + (16 * y)) + (8 * r)) + nm))) dX6_markOf_61 rfl ?_
          exact r_iret (d := mX6_markOf) (pc := 63) dX6_markOf_63 rfl (rtI (by rw [mkV, if_neg (by omega), if_neg (by omega)]) (by rfl)) (by decide) (by decide)
        · refine r_iload (d := mX6_markOf) (pc := 51) (i := 4) (v := (I 156 (((63 + (16 * y)) + (8 * r)) + nm))) dX6_markOf_51 rfl ?_
          refine r_if_ge (d := mX6_markOf) (pc := 53) (tgt := 61) dX6_markOf_53 (by decide) (fun h53 => ?_) (fun h53 => ?_)
          · refine r_iload (d := mX6_markOf) (pc := 61) (i := 4) (v := (I 156 (((63 + (16 * y)) + (8 * r)) + nm))) dX6_markOf_61 rfl ?_
            exact r_iret (d := mX6_markOf) (pc := 63) dX6_markOf_63 rfl (rtI (by rw [mkV, if_neg (by omega), if_neg (by omega)]) (by rfl)) (by decide) (by decide)
          · refine r_bipush (d := mX6_markOf) (pc := 56) (n := (-4)) dX6_markOf_56 ?_
            refine r_goto (d := mX6_markOf) (pc := 58) (tgt := 63) dX6_markOf_58 (by decide) ?_
            exact r_iret (d := mX6_markOf) (pc := 63) dX6_markOf_63 rfl (rtI (by rw [mkV, if_neg (by omega), if_pos (by omega)]) (by rfl)) (by decide) (by decide)
      · refine r_iconst (d := mX6_markOf) (pc := 24) (n := (-1)) dX6_markOf_24 ?_
        exact r_iret (d := mX6_markOf) (pc := 25) dX6_markOf_25 rfl (rtI (by rw [mkV, if_pos (by omega)]) (by rfl)) (by decide) (by decide)
set_option maxRecDepth 20000 in
set_option maxHeartbeats 4000000 in
theorem Fn_X6_names (k : Nat) (I : mIt) (P : mPt) (hM : isMd P) (c : Int) : WP (k + 0) mX6_names none (0, 0) (Rt (some (.inl (nmask (fun i => I 156 (12 + i)) c 8))) (lay0, I, P)) 0 [(0, .inr (some 155)), (1, .inl c)] [] (lay0, I, P) := by
  refine r_iconst (d := mX6_names) (pc := 0) (n := 0) dX6_names_0 ?_
  refine r_istore_n (d := mX6_names) (pc := 1) (i := 2) (lv' := [(0, .inr (some 155)), (1, .inl c), (2, .inl 0)]) dX6_names_1 rfl (by decide) rfl rfl ?_
  refine r_iconst (d := mX6_names) (pc := 2) (n := 0) dX6_names_2 ?_
  refine r_istore_n (d := mX6_names) (pc := 3) (i := 3) (lv' := [(0, .inr (some 155)), (1, .inl c), (2, .inl 0), (3, .inl 0)]) dX6_names_3 rfl (by decide) rfl rfl ?_
  have L4 : ∀ j : Nat, j ≤ 8 → WP (k + 0) mX6_names none (0, 0) (Rt (some (.inl (nmask (fun i => I 156 (12 + i)) c 8))) (lay0, I, P)) 4 [(0, .inr (some 155)), (1, .inl c), (2, .inl (nmask (fun i => I 156 (12 + i)) c j)), (3, .inl (j : Int))] [] (lay0, I, P) := by
    refine loopN (8) _ (fun j ih4 hj4 => ?_)
    refine r_iload_n (d := mX6_names) (pc := 4) (i := 3) (v := (j : Int)) dX6_names_4 rfl rfl ?_
    refine r_bipush (d := mX6_names) (pc := 5) (n := 8) dX6_names_5 ?_
    refine r_icmp_ge (d := mX6_names) (pc := 7) (tgt := 39) dX6_names_7 (by decide) (fun h7 => ?_) (fun h7 => ?_)
    · refine r_iload_n (d := mX6_names) (pc := 39) (i := 2) (v := nmask (fun i => I 156 (12 + i)) c j) dX6_names_39 rfl rfl ?_
      exact r_iret (d := mX6_names) (pc := 40) dX6_names_40 rfl (rtI (by rw [show j = 8 by omega]) (by rfl)) (by decide) (by decide)
    · refine r_iload_n (d := mX6_names) (pc := 10) (i := 2) (v := nmask (fun i => I 156 (12 + i)) c j) dX6_names_10 rfl rfl ?_
      refine r_aload_n (d := mX6_names) (pc := 11) (i := 0) (v := 155) dX6_names_11 rfl rfl ?_
      refine r_getRs (d := mX6_names) (pc := 12) (a := 155) (kd := 6) (j := 0) (x := 156) dX6_names_12 flRX6_7 ly155 (by decide) (by decide) rfl hM.1 ?_
      refine r_bipush (d := mX6_names) (pc := 15) (n := 12) dX6_names_15 ?_
      refine r_iload_n (d := mX6_names) (pc := 17) (i := 3) (v := (j : Int)) dX6_names_17 rfl rfl ?_
      refine r_iadd (d := mX6_names) (pc := 18) dX6_names_18 ?_
      refine r_ialds (d := mX6_names) (pc := 19) (a := 156) (x := (I 156 (12 + (j : Int)))) dX6_names_19 ly156 (by omega) (by omega) (rfl) ?_
      refine r_iload_n (d := mX6_names) (pc := 20) (i := 1) (v := c) dX6_names_20 rfl rfl ?_
      refine r_icmp_ne (d := mX6_names) (pc := 21) (tgt := 30) dX6_names_21 (by decide) (fun h21 => ?_) (fun h21 => ?_)
      · refine r_iconst (d := mX6_names) (pc := 30) (n := 0) dX6_names_30 ?_
        refine r_ior (d := mX6_names) (pc := 31) dX6_names_31 ?_
        refine r_istore_n (d := mX6_names) (pc := 32) (i := 2) (lv' := [(0, .inr (some 155)), (1, .inl c), (2, .inl (bOr (nmask (fun i => I 156 (12 + i)) c j) 0)), (3, .inl (j : Int))]) dX6_names_32 rfl (by decide) rfl rfl ?_
        refine r_iinc (d := mX6_names) (pc := 33) (i := 3) (v := (j : Int)) (y := ((j + 1 : Nat) : Int)) (lv' := [(0, .inr (some 155)), (1, .inl c), (2, .inl (bOr (nmask (fun i => I 156 (12 + i)) c j) 0)), (3, .inl ((j + 1 : Nat) : Int))]) dX6_names_33 rfl (by decide) rfl (by omega) rfl ?_
        refine r_goto (d := mX6_names) (pc := 36) (tgt := 4) dX6_names_36 (by decide) ?_
        exact wpE (by rw [nmask, if_neg h21, nmask_or] <;> simp) rfl (by rfl) (ih4 (by omega) (by omega))
      · refine r_iconst (d := mX6_names) (pc := 24) (n := 1) dX6_names_24 ?_
        refine r_iload_n (d := mX6_names) (pc := 25) (i := 3) (v := (j : Int)) dX6_names_25 rfl rfl ?_
        refine r_ishl (d := mX6_names) (pc := 26) dX6_names_26 ?_
        refine r_goto (d := mX6_names) (pc := 27) (tgt := 31) dX6_names_27 (by decide) ?_
        refine r_ior (d := mX6_names) (pc := 31) dX6_names_31 ?_
        refine r_istore_n (d := mX6_names) (pc := 32) (i := 2) (lv' := [(0, .inr (some 155)), (1, .inl c), (2, .inl (bOr (nmask (fun i => I 156 (12 + i)) c j) (bShl 1 (j : Int)))), (3, .inl (j : Int))]) dX6_names_32 rfl (by decide) rfl rfl ?_
        refine r_iinc (d := mX6_names) (pc := 33) (i := 3) (v := (j : Int)) (y := ((j + 1 : Nat) : Int)) (lv' := [(0, .inr (some 155)), (1, .inl c), (2, .inl (bOr (nmask (fun i => I 156 (12 + i)) c j) (bShl 1 (j : Int)))), (3, .inl ((j + 1 : Nat) : Int))]) dX6_names_33 rfl (by decide) rfl (by omega) rfl ?_
        refine r_goto (d := mX6_names) (pc := 36) (tgt := 4) dX6_names_36 (by decide) ?_
        exact wpE (by rw [nmask, if_pos (show _ = _ from h21)] <;> simp) rfl (by rfl) (ih4 (by omega) (by omega))
  exact wpE (by simp [nmask]) rfl (by rfl) (L4 0 (by omega))
set_option maxRecDepth 20000 in
set_option maxHeartbeats 4000000 in
theorem Fn_X6_ones (k : Nat) (I : mIt) (P : mPt) (x : Int) (hx0 : 0 ≤ x) (hx1 : x < 256) : WP (k + 0) mX6_ones none (0, 0) (Rt (some (.inl (onesF x 8))) (lay0, I, P)) 0 [(0, .inl x)] [] (lay0, I, P) := by
  refine r_iconst (d := mX6_ones) (pc := 0) (n := 0) dX6_ones_0 ?_
  refine r_istore_n (d := mX6_ones) (pc := 1) (i := 1) (lv' := [(0, .inl x), (1, .inl 0)]) dX6_ones_1 rfl (by decide) rfl rfl ?_
  refine r_iconst (d := mX6_ones) (pc := 2) (n := 0) dX6_ones_2 ?_
  refine r_istore_n (d := mX6_ones) (pc := 3) (i := 2) (lv' := [(0, .inl x), (1, .inl 0), (2, .inl 0)]) dX6_ones_3 rfl (by decide) rfl rfl ?_
  have L4 : ∀ j : Nat, j ≤ 8 → WP (k + 0) mX6_ones none (0, 0) (Rt (some (.inl (onesF x 8))) (lay0, I, P)) 4 [(0, .inl x), (1, .inl (onesF x j)), (2, .inl (j : Int))] [] (lay0, I, P) := by
    refine loopN (8) _ (fun j ih4 hj4 => ?_)
    refine r_iload_n (d := mX6_ones) (pc := 4) (i := 2) (v := (j : Int)) dX6_ones_4 rfl rfl ?_
    refine r_bipush (d := mX6_ones) (pc := 5) (n := 8) dX6_ones_5 ?_
    refine r_icmp_ge (d := mX6_ones) (pc := 7) (tgt := 24) dX6_ones_7 (by decide) (fun h7 => ?_) (fun h7 => ?_)
    · refine r_iload_n (d := mX6_ones) (pc := 24) (i := 1) (v := onesF x j) dX6_ones_24 rfl rfl ?_
      exact r_iret (d := mX6_ones) (pc := 25) dX6_ones_25 rfl (rtI (by rw [show j = 8 by omega]) (by rfl)) (by decide) (by decide)
    · have hon := onesF_rng x j (fun i hi => bit01 hx0 hx1 i (by omega))
      have hb1 := bit01 hx0 hx1 j (by omega)
      refine r_iload_n (d := mX6_ones) (pc := 10) (i := 1) (v := onesF x j) dX6_ones_10 rfl rfl ?_
      refine r_iload_n (d := mX6_ones) (pc := 11) (i := 0) (v := x) dX6_ones_11 rfl rfl ?_
      refine r_iload_n (d := mX6_ones) (pc := 12) (i := 2) (v := (j : Int)) dX6_ones_12 rfl rfl ?_
      refine r_ishr (d := mX6_ones) (pc := 13) dX6_ones_13 ?_
      refine r_iconst (d := mX6_ones) (pc := 14) (n := 1) dX6_ones_14 ?_
      refine r_iand (d := mX6_ones) (pc := 15) dX6_ones_15 ?_
      refine r_iadd (d := mX6_ones) (pc := 16) dX6_ones_16 ?_
      refine r_istore_n (d := mX6_ones) (pc := 17) (i := 1) (lv' := [(0, .inl x), (1, .inl (onesF x j + bAnd (bShr x (j : Int)) 1)), (2, .inl (j : Int))]) dX6_ones_17 rfl (by decide) rfl rfl ?_
      refine r_iinc (d := mX6_ones) (pc := 18) (i := 2) (v := (j : Int)) (y := ((j + 1 : Nat) : Int)) (lv' := [(0, .inl x), (1, .inl (onesF x j + bAnd (bShr x (j : Int)) 1)), (2, .inl ((j + 1 : Nat) : Int))]) dX6_ones_18 rfl (by decide) rfl (by omega) rfl ?_
      refine r_goto (d := mX6_ones) (pc := 21) (tgt := 4) dX6_ones_21 (by decide) ?_
      exact wpE (by simp [onesF]) rfl (by rfl) (ih4 (by omega) (by omega))
  exact wpE (by simp [onesF]) rfl (by rfl) (L4 0 (by omega))
