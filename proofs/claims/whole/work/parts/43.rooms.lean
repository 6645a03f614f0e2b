/-! ===== the program's own class: its rooms ===== -/
theorem ly0 : lay0[0]? = some (5, 8) := by decide +kernel
theorem ly51 : lay0[51]? = some (13, 4) := by decide +kernel
section ROWS5
variable {k : Nat} {d dj : mD} {S : Option (Nat × (Nat → Int))} {u : Nat × Nat} {Q : Option mV → mM → Prop} {pc : Nat} {lv : List (Nat × mV)} {st : List mV} {M M' : mM} {v : Option mV}
theorem r_putRs {a kd j idx : Nat} {r : Option Nat} (M' : mM) (hd : decode d.2.1 pc = .ok (.putfield idx, 3)) (hw : Cond.fieldLink d.1.cls idx (mTx kd j).1 (mTx kd j).2.1 (mTx kd j).2.2.1 ∈ mTb) (ha : M.1[a]? = some (kd, mNx kd)) (hk : kd < 7) (hj : j < mNx kd) (hr : mRef kd j = true) (hf : (mTx kd j).2.2.2 = false) (hM : (M.1, M.2.1, mUp M.2.2 a j r) = M')
    (kk : WP k d S u Q (pc + 3) lv st M') : WP k d S u Q pc lv (.inr r :: .inr (some a) :: st) M := r_putR hd hw ha hk hj hr hf (by rw [hM]; exact kk)
theorem r_aast13s {a n x : Nat} {i : Int} (M' : mM) (hd : decode d.2.1 pc = .ok (.aastore, 1)) (ha : M.1[a]? = some (13, n)) (h0 : 0 ≤ i) (h1 : i < (n : Int)) (hxc : M.1[x]? = some (2, mNx 2)) (hM : (M.1, M.2.1, mUp M.2.2 a i (some x)) = M')
    (kk : WP k d S u Q (pc + 1) lv st M') : WP k d S u Q pc lv (.inr (some x) :: .inl i :: .inr (some a) :: st) M := r_aast13 hd ha h0 h1 hxc (by rw [hM]; exact kk)
end ROWS5
theorem memQ {I I' : mIt} {P P' : mPt} (h : I = I') (g : P = P') : ((lay0, I, P) : mM) = (lay0, I', P') := by rw [h, g]
def isCn (P : mPt) (r t : Nat) (h : Int → Nat) : Prop := (P 0 0 = some r ∧ P 0 1 = some t ∧ P 0 2 = some 51 ∧ P 0 4 = some 52) ∧ (∀ i : Int, 0 ≤ i → i < 4 → P 51 i = some (h i)) ∧ isRm P r ∧ isRm P t ∧ (∀ i : Int, 0 ≤ i → i < 4 → isRm P (h i)) ∧ (r + 25 ≤ t ∨ t + 25 ≤ r)
def roP (P : mPt) (h : Int → Nat) (z : Nat) : mPt := fun a i => if a = 51 ∧ 0 ≤ i ∧ i < (z : Int) then some (h (i + 1)) else P a i
theorem roP_0 (P : mPt) (h : Int → Nat) : roP P h 0 = P := by
  funext a i
  unfold roP
  rw [if_neg (by omega)]
theorem roP_s (P : mPt) (h : Int → Nat) (z : Nat) (i : Int) (hi : i = (z : Int)) : mUp (roP P h z) 51 i (some (h ((z : Int) + 1))) = roP P h (z + 1) := by
  subst hi
  funext a i
  unfold mUp fset
  by_cases ha : a = 51
  · rw [if_pos ha]
    by_cases hi : i = (z : Int)
    · rw [if_pos hi]; unfold roP; rw [if_pos (by omega), hi]
    · rw [if_neg hi]
      unfold roP
      by_cases hz : 0 ≤ i ∧ i < (z : Int)
      · rw [if_pos ⟨rfl, hz⟩, if_pos ⟨ha, by omega⟩]
      · rw [if_neg (by omega), if_neg (by omega), ha]
  · rw [if_neg ha]
    unfold roP
    rw [if_neg (by omega), if_neg (by omega)]
def sqP (P : mPt) (q : Int) (r t : Nat) (h : Int → Nat) : mPt := if q < 4 then mUp (mUp (mUp P 51 q (some r)) 0 0 (some t)) 0 1 (some (h q)) else mUp (mUp (mUp (roP P h 3) 51 3 (some r)) 0 0 (some t)) 0 1 (some (h 0))
def slP (P : mPt) (I : mIt) (r t : Nat) (h : Int → Nat) (v : Int) : mPt := if v < 0 then P else sqP P (I 0 3) r t h
def slI (I : mIt) (v : Int) : mIt := if v < 0 then I else if I 0 3 < 4 then mUp I 0 3 (I 0 3 + 1) else I
def udV (I : mIt) : Int := if 0 < I 0 3 then I 0 3 - 1 else -2
def udI (I : mIt) : mIt := if 0 < I 0 3 then mUp I 0 3 (I 0 3 - 1) else I
def udP (P : mPt) (I : mIt) (r : Nat) (h : Int → Nat) : mPt := if 0 < I 0 3 then mUp (mUp P 0 0 (some (h (I 0 3 - 1)))) 51 (I 0 3 - 1) (some r) else P
set_option maxRecDepth 20000 in
set_option maxHeartbeats 4000000 in
theorem Fn_X5_spareRoom (k : Nat) (I : mIt) (P : mPt) (r t : Nat) (h : Int → Nat) (hC : isCn P r t h) : WP (k + 2) mX5_spareRoom none (0, 0) (Rt (some (.inr (some t))) (lay0, rbI I t r, P)) 0 [(0, .inr (some 0))] [] (lay0, I, P) := by
  refine r_aload_n (d := mX5_spareRoom) (pc := 0) (i := 0) (v := 0) dX5_spareRoom_0 rfl rfl ?_
  refine r_getRs (d := mX5_spareRoom) (pc := 1) (a := 0) (kd := 5) (j := 1) (x := t) dX5_spareRoom_1 flRX5_16 ly0 (by decide) (by decide) rfl hC.1.2.1 ?_
  refine r_aload_n (d := mX5_spareRoom) (pc := 4) (i := 0) (v := 0) dX5_spareRoom_4 rfl rfl ?_
  refine r_getRs (d := mX5_spareRoom) (pc := 5) (a := 0) (kd := 5) (j := 0) (x := r) dX5_spareRoom_5 flRX5_10 ly0 (by decide) (by decide) rfl hC.1.1 ?_
  refine r_cV1 (d := mX5_spareRoom) (pc := 8) (dj := mX2_become) (a := t) (kd := 2) dX5_spareRoom_8 mlRX5_124 inX2_become selX2_become rfl hC.2.2.2.1.1.1 (by decide) okX2_become (by decide) rfl (Nat.le_of_ble_eq_true rfl) (by decide) (by decide) (Fn_X2_become k I P t hC.2.2.2.1 r hC.2.2.1 hC.2.2.2.2.2.symm) ?_
  refine r_aload_n (d := mX5_spareRoom) (pc := 11) (i := 0) (v := 0) dX5_spareRoom_11 rfl rfl ?_
  refine r_getRs (d := mX5_spareRoom) (pc := 12) (a := 0) (kd := 5) (j := 1) (x := t) dX5_spareRoom_12 flRX5_16 ly0 (by decide) (by decide) rfl hC.1.2.1 ?_
  exact r_aret (d := mX5_spareRoom) (pc := 15) dX5_spareRoom_15 rfl (rtR (by rfl) (by rfl)) (by decide) (by decide)
set_option maxRecDepth 20000 in
set_option maxHeartbeats 4000000 in
theorem Fn_X5_settle (k : Nat) (I : mIt) (P : mPt) (r t : Nat) (h : Int → Nat) (hC : isCn P r t h) (hq : 0 ≤ I 0 3 ∧ I 0 3 ≤ 4) (v : Int) : WP (k + 0) mX5_settle none (0, 0) (Rt (some (.inl v)) (lay0, slI I v, slP P I r t h v)) 0 [(0, .inr (some 0)), (1, .inl v)] [] (lay0, I, P) := by
  refine r_iload_n (d := mX5_settle) (pc := 0) (i := 1) (v := v) dX5_settle_0 rfl rfl ?_
  refine r_if_ge (d := mX5_settle) (pc := 1) (tgt := 6) dX5_settle_1 (by decide) (fun h1 => ?_) (fun h1 => ?_)
  · refine r_aload_n (d := mX5_settle) (pc := 6) (i := 0) (v := 0) dX5_settle_6 rfl rfl ?_
    refine r_getIs (d := mX5_settle) (pc := 7) (a := 0) (kd := 5) (j := 3) (x := (I 0 3)) dX5_settle_7 flRX5_23 ly0 (by decide) (by decide) rfl (rfl) ?_
    refine r_if_lt (d := mX5_settle) (pc := 10) (tgt := 57) dX5_settle_10 (by decide) (fun h10 => ?_) (fun h10 => ?_)
    · exfalso; omega
    · refine r_aload_n (d := mX5_settle) (pc := 13) (i := 0) (v := 0) dX5_settle_13 rfl rfl ?_
      refine r_getIs (d := mX5_settle) (pc := 14) (a := 0) (kd := 5) (j := 3) (x := (I 0 3)) dX5_settle_14 flRX5_23 ly0 (by decide) (by decide) rfl (rfl) ?_
      refine r_iconst (d := mX5_settle) (pc := 17) (n := 4) dX5_settle_17 ?_
      refine r_icmp_ge (d := mX5_settle) (pc := 18) (tgt := 57) dX5_settle_18 (by decide) (fun h18 => ?_) (fun h18 => ?_)
      · refine r_aload_n (d := mX5_settle) (pc := 57) (i := 0) (v := 0) dX5_settle_57 rfl rfl ?_
        refine r_getRs (d := mX5_settle) (pc := 58) (a := 0) (kd := 5) (j := 2) (x := 51) dX5_settle_58 flRX5_19 ly0 (by decide) (by decide) rfl hC.1.2.2.1 ?_
        refine r_iconst (d := mX5_settle) (pc := 61) (n := 0) dX5_settle_61 ?_
        refine r_aald13s (d := mX5_settle) (pc := 62) (a := 51) (x := h 0) dX5_settle_62 ly51 (by decide) (by decide) (hC.2.1 _ (by omega) (by omega)) ?_
        refine r_astore_n (d := mX5_settle) (pc := 63) (i := 2) (lv' := [(0, .inr (some 0)), (1, .inl v), (2, .inr (some (h 0)))]) dX5_settle_63 rfl (by decide) rfl rfl ?_
        refine r_iconst (d := mX5_settle) (pc := 64) (n := 1) dX5_settle_64 ?_
        refine r_istore_n (d := mX5_settle) (pc := 65) (i := 3) (lv' := [(0, .inr (some 0)), (1, .inl v), (2, .inr (some (h 0))), (3, .inl 1)]) dX5_settle_65 rfl (by decide) rfl rfl ?_
        have L66 : ∀ z : Nat, z ≤ 3 → WP (k + 0) mX5_settle none (0, 0) (Rt (some (.inl v)) (lay0, slI I v, slP P I r t h v)) 66 [(0, .inr (some 0)), (1, .inl v), (2, .inr (some (h 0))), (3, .inl ((z : Int) + 1))] [] (lay0, I, roP P h z) := by
          refine loopN (3) _ (fun z ih66 hj66 => ?_)
          refine r_iload_n (d := mX5_settle) (pc := 66) (i := 3) (v := ((z : Int) + 1)) dX5_settle_66 rfl rfl ?_
          refine r_iconst (d := mX5_settle) (pc := 67) (n := 4) dX5_settle_67 ?_
          refine r_icmp_ge (d := mX5_settle) (pc := 68) (tgt := 91) dX5_settle_68 (by decide) (fun h68 => ?_) (fun h68 => ?_)
          · refine r_aload_n (d := mX5_settle) (pc := 91) (i := 0) (v := 0) dX5_settle_91 rfl rfl ?_
            refine r_getRs (d := mX5_settle) (pc := 92) (a := 0) (kd := 5) (j := 2) (x := 51) dX5_settle_92 flRX5_19 ly0 (by decide) (by decide) rfl hC.1.2.2.1 ?_
            refine r_iconst (d := mX5_settle) (pc := 95) (n := 3) dX5_settle_95 ?_
            refine r_aload_n (d := mX5_settle) (pc := 96) (i := 0) (v := 0) dX5_settle_96 rfl rfl ?_
            refine r_getRs (d := mX5_settle) (pc := 97) (a := 0) (kd := 5) (j := 0) (x := r) dX5_settle_97 flRX5_10 ly0 (by decide) (by decide) rfl hC.1.1 ?_
            refine r_aast13s (d := mX5_settle) (pc := 100) (a := 51) (x := r) (lay0, I, mUp (roP P h z) 51 3 (some r)) dX5_settle_100 ly51 (by decide) (by decide) hC.2.2.1.1.1 rfl ?_
            refine r_aload_n (d := mX5_settle) (pc := 101) (i := 0) (v := 0) dX5_settle_101 rfl rfl ?_
            refine r_aload_n (d := mX5_settle) (pc := 102) (i := 0) (v := 0) dX5_settle_102 rfl rfl ?_
            refine r_getRs (d := mX5_settle) (pc := 103) (a := 0) (kd := 5) (j := 1) (x := t) dX5_settle_103 flRX5_16 ly0 (by decide) (by decide) rfl (by simp [mUp, fset, roP, hC.1.2.1]) ?_
            refine r_putRs (d := mX5_settle) (pc := 106) (a := 0) (kd := 5) (j := 0) (lay0, I, mUp (mUp (roP P h z) 51 3 (some r)) 0 0 (some t)) dX5_settle_106 flRX5_10 ly0 (by decide) (by decide) rfl rfl rfl ?_
            refine r_aload_n (d := mX5_settle) (pc := 109) (i := 0) (v := 0) dX5_settle_109 rfl rfl ?_
            refine r_aload_n (d := mX5_settle) (pc := 110) (i := 2) (v := h 0) dX5_settle_110 rfl rfl ?_
            refine r_putRs (d := mX5_settle) (pc := 111) (a := 0) (kd := 5) (j := 1) (lay0, I, mUp (mUp (mUp (roP P h z) 51 3 (some r)) 0 0 (some t)) 0 1 (some (h 0))) dX5_settle_111 flRX5_16 ly0 (by decide) (by decide) rfl rfl rfl ?_
            refine r_iload_n (d := mX5_settle) (pc := 114) (i := 1) (v := v) dX5_settle_114 rfl rfl ?_
            exact r_iret (d := mX5_settle) (pc := 115) dX5_settle_115 rfl (rtI (by rfl) (by refine memQ (by first | (rw [slI, if_pos (by omega)]; done) | (rw [slI, if_neg (by omega), if_pos (by omega)]; done) | (rw [slI, if_neg (by omega), if_neg (by omega)]; done)) (by first | (rw [slP, if_pos (by omega)]; done) | (rw [slP, if_neg (by omega), sqP, if_pos (by omega)]; done) | (rw [slP, if_neg (by omega), sqP, if_neg (by omega), show z = 3 by omega])))) (by decide) (by decide)
          · refine r_aload_n (d := mX5_settle) (pc := 71) (i := 0) (v := 0) dX5_settle_71 rfl rfl ?_
            refine r_getRs (d := mX5_settle) (pc := 72) (a := 0) (kd := 5) (j := 2) (x := 51) dX5_settle_72 flRX5_19 ly0 (by decide) (by decide) rfl hC.1.2.2.1 ?_
            refine r_iload_n (d := mX5_settle) (pc := 75) (i := 3) (v := ((z : Int) + 1)) dX5_settle_75 rfl rfl ?_
            refine r_iconst (d := mX5_settle) (pc := 76) (n := 1) dX5_settle_76 ?_
            refine r_isub (d := mX5_settle) (pc := 77) dX5_settle_77 ?_
            refine r_aload_n (d := mX5_settle) (pc := 78) (i := 0) (v := 0) dX5_settle_78 rfl rfl ?_
            refine r_getRs (d := mX5_settle) (pc := 79) (a := 0) (kd := 5) (j := 2) (x := 51) dX5_settle_79 flRX5_19 ly0 (by decide) (by decide) rfl hC.1.2.2.1 ?_
            refine r_iload_n (d := mX5_settle) (pc := 82) (i := 3) (v := ((z : Int) + 1)) dX5_settle_82 rfl rfl ?_
            refine r_aald13s (d := mX5_settle) (pc := 83) (a := 51) (x := h ((z : Int) + 1)) dX5_settle_83 ly51 (by omega) (by omega) (by show roP P h z 51 ((z : Int) + 1) = _; rw [roP, if_neg (by omega)]; exact hC.2.1 _ (by omega) (by omega)) ?_
            refine r_aast13s (d := mX5_settle) (pc := 84) (a := 51) (x := h ((z : Int) + 1)) (lay0, I, mUp (roP P h z) 51 (((z : Int) + 1) - 1) (some (h ((z : Int) + 1)))) dX5_settle_84 ly51 (by omega) (by omega) (hC.2.2.2.2.1 _ (by omega) (by omega)).1.1 rfl ?_
            refine r_iinc (d := mX5_settle) (pc := 85) (i := 3) (v := ((z : Int) + 1)) (y := (((z : Int) + 1) + 1)) (lv' := [(0, .inr (some 0)), (1, .inl v), (2, .inr (some (h 0))), (3, .inl (((z : Int) + 1) + 1))]) dX5_settle_85 rfl (by decide) rfl rfl rfl ?_
            refine r_goto (d := mX5_settle) (pc := 88) (tgt := 66) dX5_settle_88 (by decide) ?_
            exact wpE (by simp) rfl (by refine memQ rfl ?_; exact roP_s _ _ _ _ (by omega)) (ih66 (by omega) (by omega))
        exact wpE (by simp) rfl (by refine memQ rfl ?_; exact (roP_0 _ _).symm) (L66 0 (by omega))
      · refine r_aload_n (d := mX5_settle) (pc := 21) (i := 0) (v := 0) dX5_settle_21 rfl rfl ?_
        refine r_getRs (d := mX5_settle) (pc := 22) (a := 0) (kd := 5) (j := 2) (x := 51) dX5_settle_22 flRX5_19 ly0 (by decide) (by decide) rfl hC.1.2.2.1 ?_
        refine r_aload_n (d := mX5_settle) (pc := 25) (i := 0) (v := 0) dX5_settle_25 rfl rfl ?_
        refine r_getIs (d := mX5_settle) (pc := 26) (a := 0) (kd := 5) (j := 3) (x := (I 0 3)) dX5_settle_26 flRX5_23 ly0 (by decide) (by decide) rfl (rfl) ?_
        refine r_aald13s (d := mX5_settle) (pc := 29) (a := 51) (x := h (I 0 3)) dX5_settle_29 ly51 (by omega) (by omega) (hC.2.1 _ (by omega) (by omega)) ?_
        refine r_astore_n (d := mX5_settle) (pc := 30) (i := 2) (lv' := [(0, .inr (some 0)), (1, .inl v), (2, .inr (some (h (I 0 3))))]) dX5_settle_30 rfl (by decide) rfl rfl ?_
        refine r_aload_n (d := mX5_settle) (pc := 31) (i := 0) (v := 0) dX5_settle_31 rfl rfl ?_
        refine r_getRs (d := mX5_settle) (pc := 32) (a := 0) (kd := 5) (j := 2) (x := 51) dX5_settle_32 flRX5_19 ly0 (by decide) (by decide) rfl hC.1.2.2.1 ?_
        refine r_aload_n (d := mX5_settle) (pc := 35) (i := 0) (v := 0) dX5_settle_35 rfl rfl ?_
        refine r_getIs (d := mX5_settle) (pc := 36) (a := 0) (kd := 5) (j := 3) (x := (I 0 3)) dX5_settle_36 flRX5_23 ly0 (by decide) (by decide) rfl (rfl) ?_
        refine r_aload_n (d := mX5_settle) (pc := 39) (i := 0) (v := 0) dX5_settle_39 rfl rfl ?_
        refine r_getRs (d := mX5_settle) (pc := 40) (a := 0) (kd := 5) (j := 0) (x := r) dX5_settle_40 flRX5_10 ly0 (by decide) (by decide) rfl hC.1.1 ?_
        refine r_aast13s (d := mX5_settle) (pc := 43) (a := 51) (x := r) (lay0, I, mUp P 51 (I 0 3) (some r)) dX5_settle_43 ly51 (by omega) (by omega) hC.2.2.1.1.1 rfl ?_
        refine r_aload_n (d := mX5_settle) (pc := 44) (i := 0) (v := 0) dX5_settle_44 rfl rfl ?_
        refine r_dup (d := mX5_settle) (pc := 45) dX5_settle_45 ?_
        refine r_getIs (d := mX5_settle) (pc := 46) (a := 0) (kd := 5) (j := 3) (x := (I 0 3)) dX5_settle_46 flRX5_23 ly0 (by decide) (by decide) rfl (rfl) ?_
        refine r_iconst (d := mX5_settle) (pc := 49) (n := 1) dX5_settle_49 ?_
        refine r_iadd (d := mX5_settle) (pc := 50) dX5_settle_50 ?_
        refine r_putIs (d := mX5_settle) (pc := 51) (a := 0) (kd := 5) (j := 3) (lay0, mUp I 0 3 ((I 0 3) + 1), mUp P 51 (I 0 3) (some r)) dX5_settle_51 flRX5_23 ly0 (by decide) (by decide) rfl rfl (Or.inl rfl) rfl ?_
        refine r_goto (d := mX5_settle) (pc := 54) (tgt := 101) dX5_settle_54 (by decide) ?_
        refine r_aload_n (d := mX5_settle) (pc := 101) (i := 0) (v := 0) dX5_settle_101 rfl rfl ?_
        refine r_aload_n (d := mX5_settle) (pc := 102) (i := 0) (v := 0) dX5_settle_102 rfl rfl ?_
        refine r_getRs (d := mX5_settle) (pc := 103) (a := 0) (kd := 5) (j := 1) (x := t) dX5_settle_103 flRX5_16 ly0 (by decide) (by decide) rfl (by simp [mUp, fset, roP, hC.1.2.1]) ?_
        refine r_putRs (d := mX5_settle) (pc := 106) (a := 0) (kd := 5) (j := 0) (lay0, mUp I 0 3 ((I 0 3) + 1), mUp (mUp P 51 (I 0 3) (some r)) 0 0 (some t)) dX5_settle_106 flRX5_10 ly0 (by decide) (by decide) rfl rfl rfl ?_
        refine r_aload_n (d := mX5_settle) (pc := 109) (i := 0) (v := 0) dX5_settle_109 rfl rfl ?_
        refine r_aload_n (d := mX5_settle) (pc := 110) (i := 2) (v := h (I 0 3)) dX5_settle_110 rfl rfl ?_
        refine r_putRs (d := mX5_settle) (pc := 111) (a := 0) (kd := 5) (j := 1) (lay0, mUp I 0 3 ((I 0 3) + 1), mUp (mUp (mUp P 51 (I 0 3) (some r)) 0 0 (some t)) 0 1 (some (h (I 0 3)))) dX5_settle_111 flRX5_16 ly0 (by decide) (by decide) rfl rfl rfl ?_
        refine r_iload_n (d := mX5_settle) (pc := 114) (i := 1) (v := v) dX5_settle_114 rfl rfl ?_
        exact r_iret (d := mX5_settle) (pc := 115) dX5_settle_115 rfl (rtI (by rfl) (by refine memQ (by first | (rw [slI, if_pos (by omega)]; done) | (rw [slI, if_neg (by omega), if_pos (by omega)]; done) | (rw [slI, if_neg (by omega), if_neg (by omega)]; done)) (by first | (rw [slP, if_pos (by omega)]; done) | (rw [slP, if_neg (by omega), sqP, if_pos (by omega)]; done) | (rw [slP, if_neg (by omega), sqP, if_neg (by omega), show z = 3 by omega])))) (by decide) (by decide)
  · refine r_iload_n (d := mX5_settle) (pc := 4) (i := 1) (v := v) dX5_settle_4 rfl rfl ?_
    exact r_iret (d := mX5_settle) (pc := 5) dX5_settle_5 rfl (rtI (by rfl) (by refine memQ (by first | (rw [slI, if_pos (by omega)]; done) | (rw [slI, if_neg (by omega), if_pos (by omega)]; done) | (rw [slI, if_neg (by omega), if_neg (by omega)]; done)) (by first | (rw [slP, if_pos (by omega)]; done) | (rw [slP, if_neg (by omega), sqP, if_pos (by omega)]; done) | (rw [slP, if_neg (by omega), sqP, if_neg (by omega), show z = 3 by omega])))) (by decide) (by decide)
set_option maxRecDepth 20000 in
set_option maxHeartbeats 4000000 in
theorem Fn_X5_undo (k : Nat) (I : mIt) (P : mPt) (r t : Nat) (h : Int → Nat) (hC : isCn P r t h) (hq : 0 ≤ I 0 3 ∧ I 0 3 ≤ 4) : WP (k + 0) mX5_undo none (0, 0) (Rt (some (.inl (udV I))) (lay0, udI I, udP P I r h)) 0 [(0, .inr (some 0))] [] (lay0, I, P) := by
  refine r_aload_n (d := mX5_undo) (pc := 0) (i := 0) (v := 0) dX5_undo_0 rfl rfl ?_
  refine r_getIs (d := mX5_undo) (pc := 1) (a := 0) (kd := 5) (j := 3) (x := (I 0 3)) dX5_undo_1 flRX5_23 ly0 (by decide) (by decide) rfl (rfl) ?_
  refine r_if_le (d := mX5_undo) (pc := 4) (tgt := 15) dX5_undo_4 (by decide) (fun h4 => ?_) (fun h4 => ?_)
  · refine r_bipush (d := mX5_undo) (pc := 15) (n := (-2)) dX5_undo_15 ?_
    exact r_iret (d := mX5_undo) (pc := 17) dX5_undo_17 rfl (rtI (by first | (rw [udV, if_pos (by omega)]; done) | (rw [udV, if_neg (by omega)]; done)) (by refine memQ (by first | (rw [udI, if_pos (by omega)]; done) | (rw [udI, if_neg (by omega)]; done)) (by first | (rw [udP, if_pos (by omega)]; done) | (rw [udP, if_neg (by omega)]; done)))) (by decide) (by decide)
  · refine r_aload_n (d := mX5_undo) (pc := 7) (i := 0) (v := 0) dX5_undo_7 rfl rfl ?_
    refine r_getIs (d := mX5_undo) (pc := 8) (a := 0) (kd := 5) (j := 3) (x := (I 0 3)) dX5_undo_8 flRX5_23 ly0 (by decide) (by decide) rfl (rfl) ?_
    refine r_iconst (d := mX5_undo) (pc := 11) (n := 4) dX5_undo_11 ?_
    refine r_icmp_le (d := mX5_undo) (pc := 12) (tgt := 18) dX5_undo_12 (by decide) (fun h12 => ?_) (fun h12 => ?_)
    · refine r_aload_n (d := mX5_undo) (pc := 18) (i := 0) (v := 0) dX5_undo_18 rfl rfl ?_
      refine r_dup (d := mX5_undo) (pc := 19) dX5_undo_19 ?_
      refine r_getIs (d := mX5_undo) (pc := 20) (a := 0) (kd := 5) (j := 3) (x := (I 0 3)) dX5_undo_20 flRX5_23 ly0 (by decide) (by decide) rfl (rfl) ?_
      refine r_iconst (d := mX5_undo) (pc := 23) (n := 1) dX5_undo_23 ?_
      refine r_isub (d := mX5_undo) (pc := 24) dX5_undo_24 ?_
      refine r_putIs (d := mX5_undo) (pc := 25) (a := 0) (kd := 5) (j := 3) (lay0, mUp I 0 3 ((I 0 3) - 1), P) dX5_undo_25 flRX5_23 ly0 (by decide) (by decide) rfl rfl (Or.inl rfl) rfl ?_
      refine r_aload_n (d := mX5_undo) (pc := 28) (i := 0) (v := 0) dX5_undo_28 rfl rfl ?_
      refine r_getRs (d := mX5_undo) (pc := 29) (a := 0) (kd := 5) (j := 0) (x := r) dX5_undo_29 flRX5_10 ly0 (by decide) (by decide) rfl hC.1.1 ?_
      refine r_astore_n (d := mX5_undo) (pc := 32) (i := 1) (lv' := [(0, .inr (some 0)), (1, .inr (some r))]) dX5_undo_32 rfl (by decide) rfl rfl ?_
      refine r_aload_n (d := mX5_undo) (pc := 33) (i := 0) (v := 0) dX5_undo_33 rfl rfl ?_
      refine r_aload_n (d := mX5_undo) (pc := 34) (i := 0) (v := 0) dX5_undo_34 rfl rfl ?_
      refine r_getRs (d := mX5_undo) (pc := 35) (a := 0) (kd := 5) (j := 2) (x := 51) dX5_undo_35 flRX5_19 ly0 (by decide) (by decide) rfl hC.1.2.2.1 ?_
      refine r_aload_n (d := mX5_undo) (pc := 38) (i := 0) (v := 0) dX5_undo_38 rfl rfl ?_
      refine r_getIs (d := mX5_undo) (pc := 39) (a := 0) (kd := 5) (j := 3) (x := ((I 0 3) - 1)) dX5_undo_39 flRX5_23 ly0 (by decide) (by decide) rfl (by simp [mUp, cpy, fset]) ?_
      refine r_aald13s (d := mX5_undo) (pc := 42) (a := 51) (x := h ((I 0 3) - 1)) dX5_undo_42 ly51 (by omega) (by omega) (hC.2.1 _ (by omega) (by omega)) ?_
      refine r_putRs (d := mX5_undo) (pc := 43) (a := 0) (kd := 5) (j := 0) (lay0, mUp I 0 3 ((I 0 3) - 1), mUp P 0 0 (some (h ((I 0 3) - 1)))) dX5_undo_43 flRX5_10 ly0 (by decide) (by decide) rfl rfl rfl ?_
      refine r_aload_n (d := mX5_undo) (pc := 46) (i := 0) (v := 0) dX5_undo_46 rfl rfl ?_
      refine r_getRs (d := mX5_undo) (pc := 47) (a := 0) (kd := 5) (j := 2) (x := 51) dX5_undo_47 flRX5_19 ly0 (by decide) (by decide) rfl (by simp [mUp, fset, roP, hC.1.2.2.1]) ?_
      refine r_aload_n (d := mX5_undo) (pc := 50) (i := 0) (v := 0) dX5_undo_50 rfl rfl ?_
      refine r_getIs (d := mX5_undo) (pc := 51) (a := 0) (kd := 5) (j := 3) (x := ((I 0 3) - 1)) dX5_undo_51 flRX5_23 ly0 (by decide) (by decide) rfl (by simp [mUp, cpy, fset]) ?_
      refine r_aload_n (d := mX5_undo) (pc := 54) (i := 1) (v := r) dX5_undo_54 rfl rfl ?_
      refine r_aast13s (d := mX5_undo) (pc := 55) (a := 51) (x := r) (lay0, mUp I 0 3 ((I 0 3) - 1), mUp (mUp P 0 0 (some (h ((I 0 3) - 1)))) 51 ((I 0 3) - 1) (some r)) dX5_undo_55 ly51 (by omega) (by omega) hC.2.2.1.1.1 rfl ?_
      refine r_aload_n (d := mX5_undo) (pc := 56) (i := 0) (v := 0) dX5_undo_56 rfl rfl ?_
      refine r_getIs (d := mX5_undo) (pc := 57) (a := 0) (kd := 5) (j := 3) (x := ((I 0 3) - 1)) dX5_undo_57 flRX5_23 ly0 (by decide) (by decide) rfl (by simp [mUp, cpy, fset]) ?_
      exact r_iret (d := mX5_undo) (pc := 60) dX5_undo_60 rfl (rtI (by first | (rw [udV, if_pos (by omega)]; done) | (rw [udV, if_neg (by omega)]; done)) (by refine memQ (by first | (rw [udI, if_pos (by omega)]; done) | (rw [udI, if_neg (by omega)]; done)) (by first | (rw [udP, if_pos (by omega)]; done) | (rw [udP, if_neg (by omega)]; done)))) (by decide) (by decide)
    · refine r_bipush (d := mX5_undo) (pc := 15) (n := (-2)) dX5_undo_15 ?_
      exact r_iret (d := mX5_undo) (pc := 17) dX5_undo_17 rfl (rtI (by first | (rw [udV, if_pos (by omega)]; done) | (rw [udV, if_neg (by omega)]; done)) (by refine memQ (by first | (rw [udI, if_pos (by omega)]; done) | (rw [udI, if_neg (by omega)]; done)) (by first | (rw [udP, if_pos (by omega)]; done) | (rw [udP, if_neg (by omega)]; done)))) (by decide) (by decide)
set_option maxRecDepth 20000 in
set_option maxHeartbeats 4000000 in
theorem Fn_X5_noteFault (k : Nat) (I : mIt) (P : mPt) (p c w : Int) : WP (k + 0) mX5_noteFault none (0, 0) (Rt none (lay0, mUp (mUp (mUp I 0 5 p) 0 6 c) 0 7 w, P)) 0 [(0, .inr (some 0)), (1, .inl p), (2, .inl c), (3, .inl w)] [] (lay0, I, P) := by
  refine r_aload_n (d := mX5_noteFault) (pc := 0) (i := 0) (v := 0) dX5_noteFault_0 rfl rfl ?_
  refine r_iload_n (d := mX5_noteFault) (pc := 1) (i := 1) (v := p) dX5_noteFault_1 rfl rfl ?_
  refine r_putIs (d := mX5_noteFault) (pc := 2) (a := 0) (kd := 5) (j := 5) (lay0, mUp I 0 5 p, P) dX5_noteFault_2 flRX5_34 ly0 (by decide) (by decide) rfl rfl (Or.inl rfl) rfl ?_
  refine r_aload_n (d := mX5_noteFault) (pc := 5) (i := 0) (v := 0) dX5_noteFault_5 rfl rfl ?_
  refine r_iload_n (d := mX5_noteFault) (pc := 6) (i := 2) (v := c) dX5_noteFault_6 rfl rfl ?_
  refine r_putIs (d := mX5_noteFault) (pc := 7) (a := 0) (kd := 5) (j := 6) (lay0, mUp (mUp I 0 5 p) 0 6 c, P) dX5_noteFault_7 flRX5_37 ly0 (by decide) (by decide) rfl rfl (Or.inl rfl) rfl ?_
  refine r_aload_n (d := mX5_noteFault) (pc := 10) (i := 0) (v := 0) dX5_noteFault_10 rfl rfl ?_
  refine r_iload_n (d := mX5_noteFault) (pc := 11) (i := 3) (v := w) dX5_noteFault_11 rfl rfl ?_
  refine r_putIs (d := mX5_noteFault) (pc := 12) (a := 0) (kd := 5) (j := 7) (lay0, mUp (mUp (mUp I 0 5 p) 0 6 c) 0 7 w, P) dX5_noteFault_12 flRX5_40 ly0 (by decide) (by decide) rfl rfl (Or.inl rfl) rfl ?_
  exact r_ret (d := mX5_noteFault) (pc := 15) dX5_noteFault_15 rfl (rtV (by rfl)) (by decide) (by decide)
