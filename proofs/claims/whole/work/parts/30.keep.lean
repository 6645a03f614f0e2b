/-! ===== the model: keep, back, markOf ===== -/
def kpA (s : Int → Int) (m : Nat) (j : Nat) : Int → Int := fun i => if i = 2 then (m : Int) - 1 else if 63 ≤ i ∧ i < 63 + (j : Int) then s (i + 16) else s i
theorem kpA_0 (s : Int → Int) (m : Nat) : fset s 2 ((m : Int) - 1) = kpA s m 0 := by
  funext i
  unfold fset kpA
  by_cases h : i = 2
  · rw [if_pos h, if_pos h]
  · rw [if_neg h, if_neg h, if_neg (by omega)]
theorem kpA_s (s : Int → Int) (m j : Nat) : fset (kpA s m j) (63 + (j : Int)) (s (63 + (j : Int) + 16)) = kpA s m (j + 1) := by
  funext i
  unfold fset
  by_cases h : i = 63 + (j : Int)
  · rw [if_pos h]
    unfold kpA
    rw [if_neg (by omega), if_pos (by omega), h]
  · rw [if_neg h]
    unfold kpA
    by_cases h2 : i = 2
    · rw [if_pos h2, if_pos h2]
    · rw [if_neg h2, if_neg h2]
      by_cases h3 : 63 ≤ i ∧ i < 63 + (j : Int)
      · rw [if_pos h3, if_pos (by omega)]
      · rw [if_neg h3, if_neg (by omega)]
theorem kpA_2 (s : Int → Int) (m j : Nat) : kpA s m j 2 = (m : Int) - 1 := if_pos rfl
theorem kpA_at (s : Int → Int) (m j : Nat) {i : Int} (h : i < 63 ∨ 63 + (j : Int) ≤ i) (h2 : i ≠ 2) : kpA s m j i = s i := by
  unfold kpA
  rw [if_neg h2, if_neg (by omega)]
def kpO (s : Int → Int) : Nat → Int → Int
  | 0 => s
  | k + 1 => fset (kpO s k) (111 + 7 * (k : Int) + 5) (s (111 + 7 * (k : Int) + 5) - (if 0 < s (111 + 7 * (k : Int) + 5) then 1 else 0))
theorem kpO_at (s : Int → Int) (k : Nat) {i : Int} (h : i < 111 ∨ 111 + 7 * (k : Int) ≤ i) : kpO s k i = s i := by
  induction k with
  | zero => rfl
  | succ k ih =>
    unfold kpO
    rw [fset_ne _ _ (by omega), ih (by omega)]
def kpS (s : Int → Int) (n m nc : Nat) : Int → Int := frM (kpO (kpA s m (16 * (m - 1))) n) n (m - 1) nc
def kpV (m : Nat) : Int := if m = 0 then -2 else (m : Int) - 1
def kpI (I : mIt) (n m nc : Nat) : mIt := if m = 0 then I else chB I (kpS (I 156) n m nc)
def bkC (s : Int → Int) (y : Int) (j : Nat) : Int → Int := fun i => if 12 ≤ i ∧ i < 12 + (j : Int) then s (63 + 16 * y + (i - 12)) else s i
theorem bkC_0 (s : Int → Int) (y : Int) : bkC s y 0 = s := by
  funext i
  unfold bkC
  rw [if_neg (by omega)]
theorem bkC_s (s : Int → Int) (y : Int) (j : Nat) : fset (bkC s y j) (12 + (j : Int)) (s (63 + 16 * y + (j : Int))) = bkC s y (j + 1) := by
  funext i
  unfold fset
  by_cases h : i = 12 + (j : Int)
  · rw [if_pos h]
    unfold bkC
    rw [if_pos (by omega), h]
    congr 1
    omega
  · rw [if_neg h]
    unfold bkC
    by_cases h2 : 12 ≤ i ∧ i < 12 + (j : Int)
    · rw [if_pos h2, if_pos (by omega)]
    · rw [if_neg h2, if_neg (by omega)]
theorem bkC_at (s : Int → Int) (y : Int) (j : Nat) {i : Int} (h : i < 12 ∨ 12 + (j : Int) ≤ i) : bkC s y j i = s i := by
  unfold bkC
  rw [if_neg (by omega)]
def bkD (y : Int) : Nat → (Int → Int) → Nat → Nat → (Int → Int) × Nat
  | 0, s, n, _ => (s, n)
  | f + 1, s, n, k => if y < s (111 + 7 * (k : Int) + 5) then bkD y f (drS s n k) (n - 1) k else bkD y f s n (k + 1)
theorem bkD_inv (y : Int) (f : Nat) : ∀ (s : Int → Int) (n k : Nat), n - k = f → k ≤ n → s 3 = n → (∀ i : Int, i < 111 → i ≠ 3 → (bkD y f s n k).1 i = s i) ∧ (bkD y f s n k).1 3 = ((bkD y f s n k).2 : Nat) ∧ (bkD y f s n k).2 ≤ n := by
  induction f with
  | zero => intro s n k h1 h2 h3; exact ⟨fun _ _ _ => rfl, h3, Nat.le_refl _⟩
  | succ f ih =>
    intro s n k h1 h2 h3
    unfold bkD
    split
    · obtain ⟨a1, a2, a3⟩ := ih (drS s n k) (n - 1) k (by omega) (by omega) (by rw [drS_3]; omega)
      exact ⟨fun i q1 q2 => by rw [a1 i q1 q2, drS_lo _ _ _ q1 q2], a2, by omega⟩
    · exact ih s n (k + 1) (by omega) (by omega) h3
def bkT (s : Int → Int) (n : Nat) (y : Int) : Int → Int := (bkD y n (bkC s y 16) n 0).1
def bkN (s : Int → Int) (n : Nat) (y : Int) : Nat := (bkD y n (bkC s y 16) n 0).2
def bkS (s : Int → Int) (n m nc : Nat) (y : Int) : Int → Int := frM (fset (bkT s n y) 2 y) (bkN s n y) y.toNat nc
def bkV (s : Int → Int) (n m : Nat) (y : Int) : Int := if 0 ≤ y ∧ y < (m : Int) then (n : Int) - ((bkN s n y : Nat) : Int) else -1
def bkI (I : mIt) (n m nc : Nat) (y : Int) : mIt := if 0 ≤ y ∧ y < (m : Int) then chB I (bkS (I 156) n m nc y) else I
theorem bkT_inv {s : Int → Int} {n : Nat} (y : Int) (h3 : s 3 = n) : (∀ i : Int, i < 111 → (i < 12 ∨ 28 ≤ i) → i ≠ 3 → bkT s n y i = s i) ∧ bkT s n y 3 = ((bkN s n y : Nat) : Int) ∧ bkN s n y ≤ n := by
  obtain ⟨a1, a2, a3⟩ := bkD_inv y n (bkC s y 16) n 0 (by omega) (by omega) (by rw [bkC_at _ _ _ (by omega)]; exact h3)
  exact ⟨fun i q1 q2 q3 => (a1 i q1 q3).trans (bkC_at _ _ _ (by omega)), a2, a3⟩
def mkV (s : Int → Int) (m : Nat) (y nm r : Int) : Int := if ¬ ((0 ≤ y ∧ y < (m : Int)) ∧ (0 ≤ nm ∧ nm ≤ 7) ∧ (0 ≤ r ∧ r ≤ 1)) then -1 else if r = 0 ∧ s (63 + 16 * y + 8 * r + nm) < 0 then -4 else s (63 + 16 * y + 8 * r + nm)
set_option maxRecDepth 20000 in
set_option maxHeartbeats 4000000 in
theorem Fn_X6_keep (k : Nat) (I : mIt) (P : mPt) (hM : isMd P) (n : Nat) (hn : I 156 3 = n) (hn6 : n ≤ 6) (m : Nat) (hm : I 156 2 = m) (hm3 : m ≤ 3) (nc : Nat) (hc : I 156 0 = nc) (hc7 : nc ≤ 7) (hq : 0 ≤ I 155 4 ∧ I 155 4 ≤ 4) (hmk : ∀ i : Int, 0 ≤ i → i < (n : Int) → 0 ≤ I 156 (111 + 7 * i + 5) ∧ I 156 (111 + 7 * i + 5) ≤ 3) : WP (k + 3) mX6_keep none (0, 0) (Rt (some (.inl (kpV m))) (lay0, kpI I n m nc, P)) 0 [(0, .inr (some 155))] [] (lay0, I, P) := by
  refine r_aload_n (d := mX6_keep) (pc := 0) (i := 0) (v := 155) dX6_keep_0 rfl rfl ?_
  refine r_getRs (d := mX6_keep) (pc := 1) (a := 155) (kd := 6) (j := 0) (x := 156) dX6_keep_1 flRX6_7 ly155 (by decide) (by decide) rfl hM.1 ?_
  refine r_iconst (d := mX6_keep) (pc := 4) (n := 2) dX6_keep_4 ?_
  refine r_ialds (d := mX6_keep) (pc := 5) (a := 156) (x := (m : Int)) dX6_keep_5 ly156 (by decide) (by decide) (hm) ?_
  refine r_if_ne (d := mX6_keep) (pc := 6) (tgt := 12) dX6_keep_6 (by decide) (fun h6 => ?_) (fun h6 => ?_)
  · refine r_aload_n (d := mX6_keep) (pc := 12) (i := 0) (v := 155) dX6_keep_12 rfl rfl ?_
    refine r_aload_n (d := mX6_keep) (pc := 13) (i := 0) (v := 155) dX6_keep_13 rfl rfl ?_
    refine r_getRs (d := mX6_keep) (pc := 14) (a := 155) (kd := 6) (j := 0) (x := 156) dX6_keep_14 flRX6_7 ly155 (by decide) (by decide) rfl hM.1 ?_
    refine r_cV1 (d := mX6_keep) (pc := 17) (dj := mX6_changes) (a := 155) (kd := 6) dX6_keep_17 mlRX6_81 inX6_changes selX6_changes rfl ly155 (by decide) okX6_changes (by decide) rfl (Nat.le_of_ble_eq_true rfl) (by decide) (by decide) (Fn_X6_changes (k + 2) I P hM hq 156 ly156 (by decide) (by decide)) ?_
    refine wpE (lv' := [(0, .inr (some 155))]) (st' := []) (M' := (lay0, arS (mdB I (chP (I 155 5) (I 155 4) (I 157) (I 156)) (chQ (I 155 5) (I 155 4)) (I 159) (I 158)) 156 (I 156), P)) rfl rfl (by refine memE ?_; exact chI_0 _ _) ?_
    refine r_aload_n (d := mX6_keep) (pc := 20) (i := 0) (v := 155) dX6_keep_20 rfl rfl ?_
    refine r_getRs (d := mX6_keep) (pc := 21) (a := 155) (kd := 6) (j := 0) (x := 156) dX6_keep_21 flRX6_7 ly155 (by decide) (by decide) rfl hM.1 ?_
    refine r_iconst (d := mX6_keep) (pc := 24) (n := 2) dX6_keep_24 ?_
    refine r_dup2 (d := mX6_keep) (pc := 25) dX6_keep_25 ?_
    refine r_ialds (d := mX6_keep) (pc := 26) (a := 156) (x := (m : Int)) dX6_keep_26 ly156 (by decide) (by decide) (by show (I 156) 2 = _; rw [show I 156 2 = (m : Int) from hm]) ?_
    refine r_iconst (d := mX6_keep) (pc := 27) (n := 1) dX6_keep_27 ?_
    refine r_isub (d := mX6_keep) (pc := 28) dX6_keep_28 ?_
    refine r_iasts (d := mX6_keep) (pc := 29) (a := 156) (lay0, arS (mdB I (chP (I 155 5) (I 155 4) (I 157) (I 156)) (chQ (I 155 5) (I 155 4)) (I 159) (I 158)) 156 (fset (I 156) 2 ((m : Int) - 1)), P) dX6_keep_29 ly156 (by decide) (by decide) (memE (arS_up _ _ _ _ _)) ?_
    refine r_bipush (d := mX6_keep) (pc := 30) (n := 63) dX6_keep_30 ?_
    refine r_istore_n (d := mX6_keep) (pc := 32) (i := 1) (lv' := [(0, .inr (some 155)), (1, .inl 63)]) dX6_keep_32 rfl (by decide) rfl rfl ?_
    have L33 : ∀ j : Nat, j ≤ 16 * (m - 1) → WP (k + 3) mX6_keep none (0, 0) (Rt (some (.inl (kpV m))) (lay0, kpI I n m nc, P)) 33 [(0, .inr (some 155)), (1, .inl (63 + (j : Int)))] [] (lay0, arS (mdB I (chP (I 155 5) (I 155 4) (I 157) (I 156)) (chQ (I 155 5) (I 155 4)) (I 159) (I 158)) 156 (kpA (I 156) m j), P) := by
      refine loopN (16 * (m - 1)) _ (fun j ih33 hj33 => ?_)
      refine r_iload_n (d := mX6_keep) (pc := 33) (i := 1) (v := (63 + (j : Int))) dX6_keep_33 rfl rfl ?_
      refine r_bipush (d := mX6_keep) (pc := 34) (n := 63) dX6_keep_34 ?_
      refine r_bipush (d := mX6_keep) (pc := 36) (n := 16) dX6_keep_36 ?_
      refine r_aload_n (d := mX6_keep) (pc := 38) (i := 0) (v := 155) dX6_keep_38 rfl rfl ?_
      refine r_getRs (d := mX6_keep) (pc := 39) (a := 155) (kd := 6) (j := 0) (x := 156) dX6_keep_39 flRX6_7 ly155 (by decide) (by decide) rfl hM.1 ?_
      refine r_iconst (d := mX6_keep) (pc := 42) (n := 2) dX6_keep_42 ?_
      refine r_ialds (d := mX6_keep) (pc := 43) (a := 156) (x := ((m : Int) - 1)) dX6_keep_43 ly156 (by decide) (by decide) (by show (kpA (I 156) m j) 2 = _; rw [kpA_2]) ?_
      refine r_imul (d := mX6_keep) (pc := 44) dX6_keep_44 ?_
      refine r_iadd (d := mX6_keep) (pc := 45) dX6_keep_45 ?_
      refine r_icmp_ge (d := mX6_keep) (pc := 46) (tgt := 70) dX6_keep_46 (by decide) (fun h46 => ?_) (fun h46 => ?_)
      · refine r_iconst (d := mX6_keep) (pc := 70) (n := 0) dX6_keep_70 ?_
        rw [show j = 16 * (m - 1) by omega]
        refine r_istore_n (d := mX6_keep) (pc := 71) (i := 1) (lv' := [(0, .inr (some 155)), (1, .inl 0)]) dX6_keep_71 rfl (by decide) rfl rfl ?_
        have L72 : ∀ z : Nat, z ≤ n → WP (k + 3) mX6_keep none (0, 0) (Rt (some (.inl (kpV m))) (lay0, kpI I n m nc, P)) 72 [(0, .inr (some 155)), (1, .inl (z : Int))] [] (lay0, arS (mdB I (chP (I 155 5) (I 155 4) (I 157) (I 156)) (chQ (I 155 5) (I 155 4)) (I 159) (I 158)) 156 (kpO (kpA (I 156) m (16 * (m - 1))) z), P) := by
          refine loopN (n) _ (fun z ih72 hj72 => ?_)
          refine r_iload_n (d := mX6_keep) (pc := 72) (i := 1) (v := (z : Int)) dX6_keep_72 rfl rfl ?_
          refine r_aload_n (d := mX6_keep) (pc := 73) (i := 0) (v := 155) dX6_keep_73 rfl rfl ?_
          refine r_getRs (d := mX6_keep) (pc := 74) (a := 155) (kd := 6) (j := 0) (x := 156) dX6_keep_74 flRX6_7 ly155 (by decide) (by decide) rfl hM.1 ?_
          refine r_iconst (d := mX6_keep) (pc := 77) (n := 3) dX6_keep_77 ?_
          refine r_ialds (d := mX6_keep) (pc := 78) (a := 156) (x := (n : Int)) dX6_keep_78 ly156 (by decide) (by decide) (by show (kpO (kpA (I 156) m (16 * (m - 1))) z) 3 = _; rw [kpO_at _ _ (by omega), kpA_at _ _ _ (by omega) (by omega)]; exact hn) ?_
          refine r_icmp_ge (d := mX6_keep) (pc := 79) (tgt := 119) dX6_keep_79 (by decide) (fun h79 => ?_) (fun h79 => ?_)
          · refine r_aload_n (d := mX6_keep) (pc := 119) (i := 0) (v := 155) dX6_keep_119 rfl rfl ?_
            rw [show z = n by omega]
            refine r_cV0 (d := mX6_keep) (pc := 120) (dj := mX6_frees) (a := 155) (kd := 6) dX6_keep_120 mlRX6_68 inX6_frees selX6_frees rfl ly155 (by decide) okX6_frees (by decide) rfl (Nat.le_of_ble_eq_true rfl) (by decide) (by decide) (Fn_X6_frees k (arS (mdB I (chP (I 155 5) (I 155 4) (I 157) (I 156)) (chQ (I 155 5) (I 155 4)) (I 159) (I 158)) 156 (kpO (kpA (I 156) m (16 * (m - 1))) n)) P hM n ((kpO_at _ _ (by omega)).trans ((kpA_at _ _ _ (by omega) (by omega)).trans hn)) hn6 (m - 1) (by show kpO _ _ 2 = _; rw [kpO_at _ _ (by omega), kpA_2]; omega) (by omega) nc ((kpO_at _ _ (by omega)).trans ((kpA_at _ _ _ (by omega) (by omega)).trans hc)) hc7) ?_
            refine wpE (lv' := [(0, .inr (some 155)), (1, .inl (n : Int))]) (st' := []) (M' := (lay0, arS (mdB I (chP (I 155 5) (I 155 4) (I 157) (I 156)) (chQ (I 155 5) (I 155 4)) (I 159) (I 158)) 156 (frM (kpO (kpA (I 156) m (16 * (m - 1))) n) n (m - 1) nc), P)) rfl rfl (memE (arS_arS _ _ _ _)) ?_
            refine r_aload_n (d := mX6_keep) (pc := 123) (i := 0) (v := 155) dX6_keep_123 rfl rfl ?_
            refine r_getRs (d := mX6_keep) (pc := 124) (a := 155) (kd := 6) (j := 0) (x := 156) dX6_keep_124 flRX6_7 ly155 (by decide) (by decide) rfl hM.1 ?_
            refine r_iconst (d := mX6_keep) (pc := 127) (n := 2) dX6_keep_127 ?_
            refine r_ialds (d := mX6_keep) (pc := 128) (a := 156) (x := ((m : Int) - 1)) dX6_keep_128 ly156 (by decide) (by decide) (by show (frM (kpO (kpA (I 156) m (16 * (m - 1))) n) n (m - 1) nc) 2 = _; rw [frM_lo _ _ _ _ (by omega), kpO_at _ _ (by omega), kpA_2]) ?_
            exact r_iret (d := mX6_keep) (pc := 129) dX6_keep_129 rfl (rtI (by first | (rw [kpV, if_pos (by omega)]; done) | (rw [kpV, if_neg (by omega)]; try omega)) (by refine memE ?_; first | (rw [kpI, if_pos (by omega)]; done) | (rw [kpI, if_neg (by omega)]; rfl))) (by decide) (by decide)
          · have hzk := hmk z (by omega) (by omega)
            have hka : (kpA (I 156) m (16 * (m - 1))) (111 + 7 * (z : Int) + 5) = I 156 (111 + 7 * (z : Int) + 5) := kpA_at _ _ _ (by omega) (by omega)
            refine r_aload_n (d := mX6_keep) (pc := 82) (i := 0) (v := 155) dX6_keep_82 rfl rfl ?_
            refine r_getRs (d := mX6_keep) (pc := 83) (a := 155) (kd := 6) (j := 0) (x := 156) dX6_keep_83 flRX6_7 ly155 (by decide) (by decide) rfl hM.1 ?_
            refine r_iload_n (d := mX6_keep) (pc := 86) (i := 1) (v := (z : Int)) dX6_keep_86 rfl rfl ?_
            refine r_iconst (d := mX6_keep) (pc := 87) (n := 5) dX6_keep_87 ?_
            refine r_cS2 (d := mX6_keep) (pc := 88) (dj := mX6_ofOrder) dX6_keep_88 mlRX6_47 staX6_ofOrder okX6_ofOrder (by decide) rfl (Nat.le_of_ble_eq_true rfl) (by decide) (by decide) (Fn_X6_ofOrder (k + 2) (arS (mdB I (chP (I 155 5) (I 155 4) (I 157) (I 156)) (chQ (I 155 5) (I 155 4)) (I 159) (I 158)) 156 (kpO (kpA (I 156) m (16 * (m - 1))) z)) P (z : Int) 5 (by omega) (by omega) (by omega) (by omega)) ?_
            refine r_dup2 (d := mX6_keep) (pc := 91) dX6_keep_91 ?_
            refine r_ialds (d := mX6_keep) (pc := 92) (a := 156) (x := ((kpA (I 156) m (16 * (m - 1))) (111 + 7 * (z : Int) + 5))) dX6_keep_92 ly156 (by omega) (by omega) (by show (kpO (kpA (I 156) m (16 * (m - 1))) z) (111 + 7 * (z : Int) + 5) = _; rw [kpO_at _ _ (by omega)]) ?_
            refine r_aload_n (d := mX6_keep) (pc := 93) (i := 0) (v := 155) dX6_keep_93 rfl rfl ?_
            refine r_getRs (d := mX6_keep) (pc := 94) (a := 155) (kd := 6) (j := 0) (x := 156) dX6_keep_94 flRX6_7 ly155 (by decide) (by decide) rfl hM.1 ?_
            refine r_iload_n (d := mX6_keep) (pc := 97) (i := 1) (v := (z : Int)) dX6_keep_97 rfl rfl ?_
            refine r_iconst (d := mX6_keep) (pc := 98) (n := 5) dX6_keep_98 ?_
            refine r_cS2 (d := mX6_keep) (pc := 99) (dj := mX6_ofOrder) dX6_keep_99 mlRX6_47 staX6_ofOrder okX6_ofOrder (by decide) rfl (Nat.le_of_ble_eq_true rfl) (by decide) (by decide) (Fn_X6_ofOrder (k + 2) (arS (mdB I (chP (I 155 5) (I 155 4) (I 157) (I 156)) (chQ (I 155 5) (I 155 4)) (I 159) (I 158)) 156 (kpO (kpA (I 156) m (16 * (m - 1))) z)) P (z : Int) 5 (by omega) (by omega) (by omega) (by omega)) ?_
            refine r_ialds (d := mX6_keep) (pc := 102) (a := 156) (x := ((kpA (I 156) m (16 * (m - 1))) (111 + 7 * (z : Int) + 5))) dX6_keep_102 ly156 (by omega) (by omega) (by show (kpO (kpA (I 156) m (16 * (m - 1))) z) (111 + 7 * (z : Int) + 5) = _; rw [kpO_at _ _ (by omega)]) ?_
            refine r_if_le (d := mX6_keep) (pc := 103) (tgt := 110) dX6_keep_103 (by decide) (fun h103 => ?_) (fun h103 => ?_)
            · refine r_iconst (d := mX6_keep) (pc := 110) (n := 0) dX6_keep_110 ?_
              refine r_isub (d := mX6_keep) (pc := 111) dX6_keep_111 ?_
              refine r_iasts (d := mX6_keep) (pc := 112) (a := 156) (lay0, arS (mdB I (chP (I 155 5) (I 155 4) (I 157) (I 156)) (chQ (I 155 5) (I 155 4)) (I 159) (I 158)) 156 (fset (kpO (kpA (I 156) m (16 * (m - 1))) z) (111 + 7 * (z : Int) + 5) (((kpA (I 156) m (16 * (m - 1))) (111 + 7 * (z : Int) + 5)) - 0)), P) dX6_keep_112 ly156 (by omega) (by omega) (memE (arS_up _ _ _ _ _)) ?_
              refine r_iinc (d := mX6_keep) (pc := 113) (i := 1) (v := (z : Int)) (y := ((z + 1 : Nat) : Int)) (lv' := [(0, .inr (some 155)), (1, .inl ((z + 1 : Nat) : Int))]) dX6_keep_113 rfl (by decide) rfl (by omega) rfl ?_
              refine r_goto (d := mX6_keep) (pc := 116) (tgt := 72) dX6_keep_116 (by decide) ?_
              exact wpE (by simp) rfl (by refine memE ?_; rw [kpO, if_neg (by omega), Int.sub_zero]) (ih72 (by omega) (by omega))
            · refine r_iconst (d := mX6_keep) (pc := 106) (n := 1) dX6_keep_106 ?_
              refine r_goto (d := mX6_keep) (pc := 107) (tgt := 111) dX6_keep_107 (by decide) ?_
              refine r_isub (d := mX6_keep) (pc := 111) dX6_keep_111 ?_
              refine r_iasts (d := mX6_keep) (pc := 112) (a := 156) (lay0, arS (mdB I (chP (I 155 5) (I 155 4) (I 157) (I 156)) (chQ (I 155 5) (I 155 4)) (I 159) (I 158)) 156 (fset (kpO (kpA (I 156) m (16 * (m - 1))) z) (111 + 7 * (z : Int) + 5) (((kpA (I 156) m (16 * (m - 1))) (111 + 7 * (z : Int) + 5)) - 1)), P) dX6_keep_112 ly156 (by omega) (by omega) (memE (arS_up _ _ _ _ _)) ?_
              refine r_iinc (d := mX6_keep) (pc := 113) (i := 1) (v := (z : Int)) (y := ((z + 1 : Nat) : Int)) (lv' := [(0, .inr (some 155)), (1, .inl ((z + 1 : Nat) : Int))]) dX6_keep_113 rfl (by decide) rfl (by omega) rfl ?_
              refine r_goto (d := mX6_keep) (pc := 116) (tgt := 72) dX6_keep_116 (by decide) ?_
              exact wpE (by simp) rfl (by refine memE ?_; rw [kpO, if_pos (by omega)]) (ih72 (by omega) (by omega))
        exact wpE (by simp) rfl (by rfl) (L72 0 (by omega))
      · refine r_aload_n (d := mX6_keep) (pc := 49) (i := 0) (v := 155) dX6_keep_49 rfl rfl ?_
        refine r_getRs (d := mX6_keep) (pc := 50) (a := 155) (kd := 6) (j := 0) (x := 156) dX6_keep_50 flRX6_7 ly155 (by decide) (by decide) rfl hM.1 ?_
        refine r_iload_n (d := mX6_keep) (pc := 53) (i := 1) (v := (63 + (j : Int))) dX6_keep_53 rfl rfl ?_
        refine r_aload_n (d := mX6_keep) (pc := 54) (i := 0) (v := 155) dX6_keep_54 rfl rfl ?_
        refine r_getRs (d := mX6_keep) (pc := 55) (a := 155) (kd := 6) (j := 0) (x := 156) dX6_keep_55 flRX6_7 ly155 (by decide) (by decide) rfl hM.1 ?_
        refine r_iload_n (d := mX6_keep) (pc := 58) (i := 1) (v := (63 + (j : Int))) dX6_keep_58 rfl rfl ?_
        refine r_bipush (d := mX6_keep) (pc := 59) (n := 16) dX6_keep_59 ?_
        refine r_iadd (d := mX6_keep) (pc := 61) dX6_keep_61 ?_
        refine r_ialds (d := mX6_keep) (pc := 62) (a := 156) (x := (I 156 (63 + (j : Int) + 16))) dX6_keep_62 ly156 (by omega) (by omega) (by show (kpA (I 156) m j) ((63 + (j : Int)) + 16) = _; rw [kpA_at _ _ _ (by omega) (by omega)]) ?_
        refine r_iasts (d := mX6_keep) (pc := 63) (a := 156) (lay0, arS (mdB I (chP (I 155 5) (I 155 4) (I 157) (I 156)) (chQ (I 155 5) (I 155 4)) (I 159) (I 158)) 156 (fset (kpA (I 156) m j) (63 + (j : Int)) (I 156 (63 + (j : Int) + 16))), P) dX6_keep_63 ly156 (by omega) (by omega) (memE (arS_up _ _ _ _ _)) ?_
        refine r_iinc (d := mX6_keep) (pc := 64) (i := 1) (v := (63 + (j : Int))) (y := ((63 + (j : Int)) + 1)) (lv' := [(0, .inr (some 155)), (1, .inl ((63 + (j : Int)) + 1))]) dX6_keep_64 rfl (by decide) rfl rfl rfl ?_
        refine r_goto (d := mX6_keep) (pc := 67) (tgt := 33) dX6_keep_67 (by decide) ?_
        exact wpE (by simp; omega) rfl (by refine memE ?_; rw [← kpA_s]) (ih33 (by omega) (by omega))
    exact wpE (by simp) rfl (by refine memE ?_; rw [← kpA_0]) (L33 0 (by omega))
  · refine r_bipush (d := mX6_keep) (pc := 9) (n := (-2)) dX6_keep_9 ?_
    exact r_iret (d := mX6_keep) (pc := 11) dX6_keep_11 rfl (rtI (by first | (rw [kpV, if_pos (by omega)]; done) | (rw [kpV, if_neg (by omega)]; try omega)) (by refine memE ?_; first | (rw [kpI, if_pos (by omega)]; done) | (rw [kpI, if_neg (by omega)]; rfl))) (by decide) (by decide)
