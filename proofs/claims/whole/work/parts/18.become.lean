/-! ===== Room: becoming another, commands, what there is ===== -/
def rb1 (I : mIt) (b b2 : Nat) : mIt := mUp (mUp (mUp (mUp (mUp (mUp (mUp I b 0 (I b2 0)) b 1 (I b2 1)) b 2 (I b2 2)) b 3 (I b2 3)) b 4 (I b2 4)) b 5 (I b2 5)) b 6 (I b2 6)
def rb3 (I : mIt) (b b2 : Nat) : mIt := cpy (cpy (cpy (rb1 I b b2) (b + 1) 4 (I (b2 + 1))) (b + 3) 8 (I (b2 + 3))) (b + 4) 8 (I (b2 + 4))
def rb4 (I : mIt) (b b2 : Nat) : mIt := cpy (cpy (cpy (rb3 I b b2) (b + 6) 7 (I (b2 + 6))) (b + 7) 7 (I (b2 + 7))) (b + 8) 7 (I (b2 + 8))
def rb5 (I : mIt) (b b2 : Nat) : mIt := cpy (cpy (cpy (cpy (cpy (mUp (rb4 I b b2) (b + 9) 0 (I (b2 + 9) 0)) (b + 10) 6 (I (b2 + 10))) (b + 11) 6 (I (b2 + 11))) (b + 12) 6 (I (b2 + 12))) (b + 13) 6 (I (b2 + 13))) (b + 14) 6 (I (b2 + 14))
def rbL (I : mIt) (b b2 : Nat) : Nat → mIt
  | 0 => rb5 I b b2
  | j + 1 => cpy (cpy (rbL I b b2 j) (mC b j) 8 (I (mC b2 j))) (mH b j) 8 (I (mH b2 j))
theorem rb1_ne (I : mIt) {b b2 x : Nat} (h : x ≠ b) : rb1 I b b2 x = I x := by
  unfold rb1
  rw [mUp_ne _ _ _ h, mUp_ne _ _ _ h, mUp_ne _ _ _ h, mUp_ne _ _ _ h, mUp_ne _ _ _ h, mUp_ne _ _ _ h, mUp_ne _ _ _ h]
theorem rb3_ne (I : mIt) {b b2 x : Nat} (h : x < b ∨ b + 4 < x) : rb3 I b b2 x = I x := by
  unfold rb3
  rw [cpy_ne _ _ _ (by omega), cpy_ne _ _ _ (by omega), cpy_ne _ _ _ (by omega), rb1_ne _ (by omega)]
theorem rb4_ne (I : mIt) {b b2 x : Nat} (h : x < b ∨ b + 8 < x) : rb4 I b b2 x = I x := by
  unfold rb4
  rw [cpy_ne _ _ _ (by omega), cpy_ne _ _ _ (by omega), cpy_ne _ _ _ (by omega), rb3_ne _ (by omega)]
theorem rb5_ne (I : mIt) {b b2 x : Nat} (h : x < b ∨ b + 14 < x) : rb5 I b b2 x = I x := by
  unfold rb5
  rw [cpy_ne _ _ _ (by omega), cpy_ne _ _ _ (by omega), cpy_ne _ _ _ (by omega), cpy_ne _ _ _ (by omega), cpy_ne _ _ _ (by omega), mUp_ne _ _ _ (by omega), rb4_ne _ (by omega)]
theorem rbL_ne (I : mIt) {b b2 x j : Nat} (hj : j ≤ 3) (h : x < b ∨ b + 24 < x) : rbL I b b2 j x = I x := by
  induction j with
  | zero => exact rb5_ne _ (by omega)
  | succ j ih =>
    unfold rbL
    rw [cpy_ne _ _ _ (by simp only [mH]; omega), cpy_ne _ _ _ (by simp only [mC]; omega), ih (by omega)]
def rbI (I : mIt) (b b2 : Nat) : mIt := rbL I b b2 3
set_option maxRecDepth 20000 in
set_option maxHeartbeats 4000000 in
theorem Fn_X2_become (k : Nat) (I : mIt) (P : mPt) (b : Nat) (hR : isRm P b) (b2 : Nat) (hR2 : isRm P b2) (hd : b + 25 ≤ b2 ∨ b2 + 25 ≤ b) : WP (k + 1) mX2_become none (0, 0) (Rt none (lay0, rbI I b b2, P)) 0 [(0, .inr (some b)), (1, .inr (some b2))] [] (lay0, I, P) := by
  refine r_aload_n (d := mX2_become) (pc := 0) (i := 0) (v := b) dX2_become_0 rfl rfl ?_
  refine r_aload_n (d := mX2_become) (pc := 1) (i := 1) (v := b2) dX2_become_1 rfl rfl ?_
  refine r_getIs (d := mX2_become) (pc := 2) (a := b2) (kd := 2) (j := 0) (x := (I b2 0)) dX2_become_2 flRX2_9 hR2.1.1 (by decide) (by decide) rfl (rfl) ?_
  refine r_putIs (d := mX2_become) (pc := 5) (a := b) (kd := 2) (j := 0) (lay0, mUp I b 0 (I b2 0), P) dX2_become_5 flRX2_9 hR.1.1 (by decide) (by decide) rfl rfl (Or.inl rfl) rfl ?_
  refine r_aload_n (d := mX2_become) (pc := 8) (i := 0) (v := b) dX2_become_8 rfl rfl ?_
  refine r_aload_n (d := mX2_become) (pc := 9) (i := 1) (v := b2) dX2_become_9 rfl rfl ?_
  refine r_getIs (d := mX2_become) (pc := 10) (a := b2) (kd := 2) (j := 1) (x := (I b2 1)) dX2_become_10 flRX2_15 hR2.1.1 (by decide) (by decide) rfl (by simp [mUp, fset, show b2 ≠ b by omega]) ?_
  refine r_putIs (d := mX2_become) (pc := 13) (a := b) (kd := 2) (j := 1) (lay0, mUp (mUp I b 0 (I b2 0)) b 1 (I b2 1), P) dX2_become_13 flRX2_15 hR.1.1 (by decide) (by decide) rfl rfl (Or.inl rfl) rfl ?_
  refine r_aload_n (d := mX2_become) (pc := 16) (i := 0) (v := b) dX2_become_16 rfl rfl ?_
  refine r_aload_n (d := mX2_become) (pc := 17) (i := 1) (v := b2) dX2_become_17 rfl rfl ?_
  refine r_getIs (d := mX2_become) (pc := 18) (a := b2) (kd := 2) (j := 2) (x := (I b2 2)) dX2_become_18 flRX2_18 hR2.1.1 (by decide) (by decide) rfl (by simp [mUp, fset, show b2 ≠ b by omega]) ?_
  refine r_putIs (d := mX2_become) (pc := 21) (a := b) (kd := 2) (j := 2) (lay0, mUp (mUp (mUp I b 0 (I b2 0)) b 1 (I b2 1)) b 2 (I b2 2), P) dX2_become_21 flRX2_18 hR.1.1 (by decide) (by decide) rfl rfl (Or.inl rfl) rfl ?_
  refine r_aload_n (d := mX2_become) (pc := 24) (i := 0) (v := b) dX2_become_24 rfl rfl ?_
  refine r_aload_n (d := mX2_become) (pc := 25) (i := 1) (v := b2) dX2_become_25 rfl rfl ?_
  refine r_getIs (d := mX2_become) (pc := 26) (a := b2) (kd := 2) (j := 3) (x := (I b2 3)) dX2_become_26 flRX2_21 hR2.1.1 (by decide) (by decide) rfl (by simp [mUp, fset, show b2 ≠ b by omega]) ?_
  refine r_putIs (d := mX2_become) (pc := 29) (a := b) (kd := 2) (j := 3) (lay0, mUp (mUp (mUp (mUp I b 0 (I b2 0)) b 1 (I b2 1)) b 2 (I b2 2)) b 3 (I b2 3), P) dX2_become_29 flRX2_21 hR.1.1 (by decide) (by decide) rfl rfl (Or.inl rfl) rfl ?_
  refine r_aload_n (d := mX2_become) (pc := 32) (i := 0) (v := b) dX2_become_32 rfl rfl ?_
  refine r_aload_n (d := mX2_become) (pc := 33) (i := 1) (v := b2) dX2_become_33 rfl rfl ?_
  refine r_getIs (d := mX2_become) (pc := 34) (a := b2) (kd := 2) (j := 4) (x := (I b2 4)) dX2_become_34 flRX2_24 hR2.1.1 (by decide) (by decide) rfl (by simp [mUp, fset, show b2 ≠ b by omega]) ?_
  refine r_putIs (d := mX2_become) (pc := 37) (a := b) (kd := 2) (j := 4) (lay0, mUp (mUp (mUp (mUp (mUp I b 0 (I b2 0)) b 1 (I b2 1)) b 2 (I b2 2)) b 3 (I b2 3)) b 4 (I b2 4), P) dX2_become_37 flRX2_24 hR.1.1 (by decide) (by decide) rfl rfl (Or.inl rfl) rfl ?_
  refine r_aload_n (d := mX2_become) (pc := 40) (i := 0) (v := b) dX2_become_40 rfl rfl ?_
  refine r_aload_n (d := mX2_become) (pc := 41) (i := 1) (v := b2) dX2_become_41 rfl rfl ?_
  refine r_getIs (d := mX2_become) (pc := 42) (a := b2) (kd := 2) (j := 5) (x := (I b2 5)) dX2_become_42 flRX2_27 hR2.1.1 (by decide) (by decide) rfl (by simp [mUp, fset, show b2 ≠ b by omega]) ?_
  refine r_putIs (d := mX2_become) (pc := 45) (a := b) (kd := 2) (j := 5) (lay0, mUp (mUp (mUp (mUp (mUp (mUp I b 0 (I b2 0)) b 1 (I b2 1)) b 2 (I b2 2)) b 3 (I b2 3)) b 4 (I b2 4)) b 5 (I b2 5), P) dX2_become_45 flRX2_27 hR.1.1 (by decide) (by decide) rfl rfl (Or.inl rfl) rfl ?_
  refine r_aload_n (d := mX2_become) (pc := 48) (i := 0) (v := b) dX2_become_48 rfl rfl ?_
  refine r_aload_n (d := mX2_become) (pc := 49) (i := 1) (v := b2) dX2_become_49 rfl rfl ?_
  refine r_getIs (d := mX2_become) (pc := 50) (a := b2) (kd := 2) (j := 6) (x := (I b2 6)) dX2_become_50 flRX2_30 hR2.1.1 (by decide) (by decide) rfl (by simp [mUp, fset, show b2 ≠ b by omega]) ?_
  refine r_putIs (d := mX2_become) (pc := 53) (a := b) (kd := 2) (j := 6) (lay0, mUp (mUp (mUp (mUp (mUp (mUp (mUp I b 0 (I b2 0)) b 1 (I b2 1)) b 2 (I b2 2)) b 3 (I b2 3)) b 4 (I b2 4)) b 5 (I b2 5)) b 6 (I b2 6), P) dX2_become_53 flRX2_30 hR.1.1 (by decide) (by decide) rfl rfl (Or.inl rfl) rfl ?_
  refine r_iconst (d := mX2_become) (pc := 56) (n := 0) dX2_become_56 ?_
  refine r_istore_n (d := mX2_become) (pc := 57) (i := 2) (lv' := [(0, .inr (some b)), (1, .inr (some b2)), (2, .inl 0)]) dX2_become_57 rfl (by decide) rfl rfl ?_
  have L58 : ∀ i : Nat, i ≤ 4 → WP (k + 1) mX2_become none (0, 0) (Rt none (lay0, rbI I b b2, P)) 58 [(0, .inr (some b)), (1, .inr (some b2)), (2, .inl (i : Int))] [] (lay0, cpy (rb1 I b b2) (b + 1) i (I (b2 + 1)), P) := by
    refine loopN (4) _ (fun i ih58 hj58 => ?_)
    refine r_iload_n (d := mX2_become) (pc := 58) (i := 2) (v := (i : Int)) dX2_become_58 rfl rfl ?_
    refine r_iconst (d := mX2_become) (pc := 59) (n := 4) dX2_become_59 ?_
    refine r_icmp_ge (d := mX2_become) (pc := 60) (tgt := 81) dX2_become_60 (by decide) (fun h60 => ?_) (fun h60 => ?_)
    · refine r_aload_n (d := mX2_become) (pc := 81) (i := 0) (v := b) dX2_become_81 rfl rfl ?_
      refine r_getRs (d := mX2_become) (pc := 82) (a := b) (kd := 2) (j := 8) (x := b + 2) dX2_become_82 flRX2_40 hR.1.1 (by decide) (by decide) rfl hR.2.1.2.1 ?_
      refine r_aload_n (d := mX2_become) (pc := 85) (i := 1) (v := b2) dX2_become_85 rfl rfl ?_
      refine r_getRs (d := mX2_become) (pc := 86) (a := b2) (kd := 2) (j := 8) (x := b2 + 2) dX2_become_86 flRX2_40 hR2.1.1 (by decide) (by decide) rfl hR2.2.1.2.1 ?_
      refine r_cV1 (d := mX2_become) (pc := 89) (dj := mX0_become) (a := b + 2) (kd := 0) dX2_become_89 mlRX2_62 inX0_become selX0_become rfl hR.2.2.1.1 (by decide) okX0_become (by decide) rfl (Nat.le_of_ble_eq_true rfl) (by decide) (by decide) (Fn_X0_become k (cpy (rb1 I b b2) (b + 1) i (I (b2 + 1))) P (b + 2) (b + 3) (b + 4) hR.2.2.1 (b2 + 2) (b2 + 3) (b2 + 4) hR2.2.2.1 (by (try simp only [mC, mH]); omega) (by (try simp only [mC, mH]); omega) (by (try simp only [mC, mH]); omega) (by (try simp only [mC, mH]); omega) (by (try simp only [mC, mH]); omega)) ?_
      refine wpE (lv' := [(0, .inr (some b)), (1, .inr (some b2)), (2, .inl (i : Int))]) (st' := []) (M' := (lay0, rb3 I b b2, P)) rfl rfl (by refine memE ?_; rw [rb3, show i = 4 by omega, cpy_ne (x := b2 + 3) _ _ _ (by omega), rb1_ne _ (by omega), cpy_ne (x := b2 + 4) _ _ _ (by omega), rb1_ne _ (by omega)]) ?_
      refine r_aload_n (d := mX2_become) (pc := 92) (i := 0) (v := b) dX2_become_92 rfl rfl ?_
      refine r_getRs (d := mX2_become) (pc := 93) (a := b) (kd := 2) (j := 9) (x := b + 5) dX2_become_93 flRX2_47 hR.1.1 (by decide) (by decide) rfl hR.2.1.2.2.1 ?_
      refine r_aload_n (d := mX2_become) (pc := 96) (i := 1) (v := b2) dX2_become_96 rfl rfl ?_
      refine r_getRs (d := mX2_become) (pc := 97) (a := b2) (kd := 2) (j := 9) (x := b2 + 5) dX2_become_97 flRX2_47 hR2.1.1 (by decide) (by decide) rfl hR2.2.1.2.2.1 ?_
      refine r_cV1 (d := mX2_become) (pc := 100) (dj := mX4_become) (a := b + 5) (kd := 4) dX2_become_100 mlRX2_66 inX4_become selX4_become rfl hR.2.2.2.1.1 (by decide) okX4_become (by decide) rfl (Nat.le_of_ble_eq_true rfl) (by decide) (by decide) (Fn_X4_become k (rb3 I b b2) P (b + 5) (b + 6) (b + 7) (b + 8) hR.2.2.2.1 (by omega) (by omega) (by omega) (b2 + 5) (b2 + 6) (b2 + 7) (b2 + 8) hR2.2.2.2.1 (by omega) (by omega) (by omega)) ?_
      refine wpE (lv' := [(0, .inr (some b)), (1, .inr (some b2)), (2, .inl (i : Int))]) (st' := []) (M' := (lay0, rb4 I b b2, P)) rfl rfl (by refine memE ?_; rw [rb4, rb3_ne _ (by omega), rb3_ne _ (by omega), rb3_ne _ (by omega)]) ?_
      refine r_aload_n (d := mX2_become) (pc := 103) (i := 0) (v := b) dX2_become_103 rfl rfl ?_
      refine r_getRs (d := mX2_become) (pc := 104) (a := b) (kd := 2) (j := 10) (x := b + 9) dX2_become_104 flRX2_54 hR.1.1 (by decide) (by decide) rfl hR.2.1.2.2.2.1 ?_
      refine r_aload_n (d := mX2_become) (pc := 107) (i := 1) (v := b2) dX2_become_107 rfl rfl ?_
      refine r_getRs (d := mX2_become) (pc := 108) (a := b2) (kd := 2) (j := 10) (x := b2 + 9) dX2_become_108 flRX2_54 hR2.1.1 (by decide) (by decide) rfl hR2.2.1.2.2.2.1 ?_
      refine r_cV1 (d := mX2_become) (pc := 111) (dj := mX1_become) (a := b + 9) (kd := 1) dX2_become_111 mlRX2_69 inX1_become selX1_become rfl hR.2.2.2.2.1.1 (by decide) okX1_become (by decide) rfl (Nat.le_of_ble_eq_true rfl) (by decide) (by decide) (Fn_X1_become k (rb4 I b b2) P (b + 9) (b + 10) (b + 11) (b + 12) (b + 13) (b + 14) hR.2.2.2.2.1 (by omega) (by omega) (by omega) (by omega) (by omega) (b2 + 9) (b2 + 10) (b2 + 11) (b2 + 12) (b2 + 13) (b2 + 14) hR2.2.2.2.2.1 (by omega) (by omega) (by omega) (by omega) (by omega)) ?_
      refine wpE (lv' := [(0, .inr (some b)), (1, .inr (some b2)), (2, .inl (i : Int))]) (st' := []) (M' := (lay0, rb5 I b b2, P)) rfl rfl (by refine memE ?_; rw [rb5, rb4_ne _ (by omega), rb4_ne _ (by omega), rb4_ne _ (by omega), rb4_ne _ (by omega), rb4_ne _ (by omega), rb4_ne _ (by omega)]) ?_
      refine r_iconst (d := mX2_become) (pc := 114) (n := 0) dX2_become_114 ?_
      refine r_istore_n (d := mX2_become) (pc := 115) (i := 2) (lv' := [(0, .inr (some b)), (1, .inr (some b2)), (2, .inl 0)]) dX2_become_115 rfl (by decide) rfl rfl ?_
      have L116 : ∀ j : Nat, j ≤ 3 → WP (k + 1) mX2_become none (0, 0) (Rt none (lay0, rbI I b b2, P)) 116 [(0, .inr (some b)), (1, .inr (some b2)), (2, .inl (j : Int))] [] (lay0, rbL I b b2 j, P) := by
        refine loopN (3) _ (fun j ih116 hj116 => ?_)
        refine r_iload_n (d := mX2_become) (pc := 116) (i := 2) (v := (j : Int)) dX2_become_116 rfl rfl ?_
        refine r_iconst (d := mX2_become) (pc := 117) (n := 3) dX2_become_117 ?_
        refine r_icmp_ge (d := mX2_become) (pc := 118) (tgt := 142) dX2_become_118 (by decide) (fun h118 => ?_) (fun h118 => ?_)
        · exact r_ret (d := mX2_become) (pc := 142) dX2_become_142 rfl (rtV (by rw [rbI, show j = 3 by omega])) (by decide) (by decide)
        · refine r_aload_n (d := mX2_become) (pc := 121) (i := 0) (v := b) dX2_become_121 rfl rfl ?_
          refine r_getRs (d := mX2_become) (pc := 122) (a := b) (kd := 2) (j := 11) (x := b + 15) dX2_become_122 flRX2_58 hR.1.1 (by decide) (by decide) rfl hR.2.1.2.2.2.2 ?_
          refine r_iload_n (d := mX2_become) (pc := 125) (i := 2) (v := (j : Int)) dX2_become_125 rfl rfl ?_
          refine r_aald12s (d := mX2_become) (pc := 126) (a := b + 15) (x := mA b (j : Int)) dX2_become_126 hR.1.2.2 (by omega) (by omega) ((hR.mark (by omega) (by omega)).1) ?_
          refine r_aload_n (d := mX2_become) (pc := 127) (i := 1) (v := b2) dX2_become_127 rfl rfl ?_
          refine r_getRs (d := mX2_become) (pc := 128) (a := b2) (kd := 2) (j := 11) (x := b2 + 15) dX2_become_128 flRX2_58 hR2.1.1 (by decide) (by decide) rfl hR2.2.1.2.2.2.2 ?_
          refine r_iload_n (d := mX2_become) (pc := 131) (i := 2) (v := (j : Int)) dX2_become_131 rfl rfl ?_
          refine r_aald12s (d := mX2_become) (pc := 132) (a := b2 + 15) (x := mA b2 (j : Int)) dX2_become_132 hR2.1.2.2 (by omega) (by omega) ((hR2.mark (by omega) (by omega)).1) ?_
          refine r_cV1 (d := mX2_become) (pc := 133) (dj := mX0_become) (a := mA b (j : Int)) (kd := 0) dX2_become_133 mlRX2_62 inX0_become selX0_become rfl (hR.mark (i := (j : Int)) (by omega) (by omega)).2.1 (by decide) okX0_become (by decide) rfl (Nat.le_of_ble_eq_true rfl) (by decide) (by decide) (Fn_X0_become k (rbL I b b2 j) P (mA b (j : Int)) (mC b (j : Int)) (mH b (j : Int)) (hR.mark (i := (j : Int)) (by omega) (by omega)).2 (mA b2 (j : Int)) (mC b2 (j : Int)) (mH b2 (j : Int)) (hR2.mark (i := (j : Int)) (by omega) (by omega)).2 (by (try simp only [mC, mH]); omega) (by (try simp only [mC, mH]); omega) (by (try simp only [mC, mH]); omega) (by (try simp only [mC, mH]); omega) (by (try simp only [mC, mH]); omega)) ?_
          refine r_iinc (d := mX2_become) (pc := 136) (i := 2) (v := (j : Int)) (y := ((j + 1 : Nat) : Int)) (lv' := [(0, .inr (some b)), (1, .inr (some b2)), (2, .inl ((j + 1 : Nat) : Int))]) dX2_become_136 rfl (by decide) rfl (by omega) rfl ?_
          refine r_goto (d := mX2_become) (pc := 139) (tgt := 116) dX2_become_139 (by decide) ?_
          exact wpE (by simp) rfl (by refine memE ?_; rw [rbL, rbL_ne _ (by omega) (by simp only [mC]; omega), rbL_ne _ (by omega) (by simp only [mH]; omega)]) (ih116 (by omega) (by omega))
      exact wpE (by simp) rfl (by rfl) (L116 0 (by omega))
    · refine r_aload_n (d := mX2_become) (pc := 63) (i := 0) (v := b) dX2_become_63 rfl rfl ?_
      refine r_getRs (d := mX2_become) (pc := 64) (a := b) (kd := 2) (j := 7) (x := b + 1) dX2_become_64 flRX2_33 hR.1.1 (by decide) (by decide) rfl hR.2.1.1 ?_
      refine r_iload_n (d := mX2_become) (pc := 67) (i := 2) (v := (i : Int)) dX2_become_67 rfl rfl ?_
      refine r_aload_n (d := mX2_become) (pc := 68) (i := 1) (v := b2) dX2_become_68 rfl rfl ?_
      refine r_getRs (d := mX2_become) (pc := 69) (a := b2) (kd := 2) (j := 7) (x := b2 + 1) dX2_become_69 flRX2_33 hR2.1.1 (by decide) (by decide) rfl hR2.2.1.1 ?_
      refine r_iload_n (d := mX2_become) (pc := 72) (i := 2) (v := (i : Int)) dX2_become_72 rfl rfl ?_
      refine r_ialds (d := mX2_become) (pc := 73) (a := b2 + 1) (x := (I (b2 + 1) (i : Int))) dX2_become_73 hR2.1.2.1 (by omega) (by omega) (by show (cpy (rb1 I b b2) (b + 1) i (I (b2 + 1))) (b2 + 1) (i : Int) = _; rw [cpy_ne _ _ _ (by omega), rb1_ne _ (by omega)]) ?_
      refine r_iasts (d := mX2_become) (pc := 74) (a := b + 1) (lay0, mUp (cpy (rb1 I b b2) (b + 1) i (I (b2 + 1))) (b + 1) (i : Int) (I (b2 + 1) (i : Int)), P) dX2_become_74 hR.1.2.1 (by omega) (by omega) rfl ?_
      refine r_iinc (d := mX2_become) (pc := 75) (i := 2) (v := (i : Int)) (y := ((i + 1 : Nat) : Int)) (lv' := [(0, .inr (some b)), (1, .inr (some b2)), (2, .inl ((i + 1 : Nat) : Int))]) dX2_become_75 rfl (by decide) rfl (by omega) rfl ?_
      refine r_goto (d := mX2_become) (pc := 78) (tgt := 58) dX2_become_78 (by decide) ?_
      exact wpE (by simp) rfl (by refine memE ?_; exact cpy_s _ _ _ _ _ rfl) (ih58 (by omega) (by omega))
  exact wpE (by simp) rfl (by rw [cpy_0]; rfl) (L58 0 (by omega))
