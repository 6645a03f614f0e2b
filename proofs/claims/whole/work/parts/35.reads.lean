/-! ===== the model: reading a command ===== -/
theorem tx_st {I : mIt} (h : TxOK I) (h9 : I 155 9 < I 155 7) (k v : Int) : TxOK (mUp (mUp I 162 k v) 155 9 (I 155 9 + 1)) := by
  obtain ⟨h1, h2, h3⟩ := h
  have e9 : mUp (mUp I 162 k v) 155 9 (I 155 9 + 1) 155 9 = I 155 9 + 1 := by simp [mUp, fset]
  have e7 : mUp (mUp I 162 k v) 155 9 (I 155 9 + 1) 155 7 = I 155 7 := by simp [mUp, fset]
  have e0 : ∀ i : Int, mUp (mUp I 162 k v) 155 9 (I 155 9 + 1) 160 i = I 160 i := fun i => by simp [mUp, fset]
  refine ⟨by rw [e9, e7]; omega, by rw [e7]; exact h2, fun i a b => by rw [e0]; exact h3 i a b⟩
theorem tx_9 {I : mIt} (h : TxOK I) (h9 : I 155 9 < I 155 7) : TxOK (mUp I 155 9 (I 155 9 + 1)) := by
  obtain ⟨h1, h2, h3⟩ := h
  have e9 : mUp I 155 9 (I 155 9 + 1) 155 9 = I 155 9 + 1 := by simp [mUp, fset]
  have e7 : mUp I 155 9 (I 155 9 + 1) 155 7 = I 155 7 := by simp [mUp, fset]
  have e0 : ∀ i : Int, mUp I 155 9 (I 155 9 + 1) 160 i = I 160 i := fun i => by simp [mUp, fset]
  refine ⟨by rw [e9, e7]; omega, by rw [e7]; exact h2, fun i a b => by rw [e0]; exact h3 i a b⟩
theorem tx_told {I : mIt} (h : TxOK I) (k v : Int) : TxOK (mUp I 162 k v) := by
  obtain ⟨h1, h2, h3⟩ := h
  have e9 : mUp I 162 k v 155 9 = I 155 9 := by simp [mUp, fset]
  have e7 : mUp I 162 k v 155 7 = I 155 7 := by simp [mUp, fset]
  have e0 : ∀ i : Int, mUp I 162 k v 160 i = I 160 i := fun i => by simp [mUp, fset]
  refine ⟨by rw [e9, e7]; exact h1, by rw [e7]; exact h2, fun i a b => by rw [e0]; exact h3 i a b⟩
theorem at_lt {I : mIt} {lo hi : Int} (h : atB I lo hi = true) : I 155 9 < I 155 7 ∧ lo ≤ I 160 (I 155 9) ∧ I 160 (I 155 9) ≤ hi := by simpa only [atB, decide_eq_true_eq] using h
theorem pa_ok {I : mIt} {c : Int} (h : TxOK I) : TxOK (paI I c) := by
  unfold paI
  split
  · rename_i h2
    exact tx_9 h (at_lt h2).1
  · exact h
def rnB (I : mIt) : Bool := atB I 32 32 && atB (paI I 32) 97 104
def rnI (I : mIt) (k : Int) : mIt := if rnB I = true then mUp (mUp (paI I 32) 162 k (paI I 32 160 (paI I 32 155 9) - 97)) 155 9 (paI I 32 155 9 + 1) else paI I 32
theorem rn_ok {I : mIt} {k : Int} (h : TxOK I) : TxOK (rnI I k) := by
  unfold rnI
  split
  · rename_i h2
    simp only [rnB, Bool.and_eq_true] at h2
    exact tx_st (pa_ok h) (at_lt h2.2).1 k _
  · exact pa_ok h
def nuT (I : mIt) (k : Int) : mIt := mUp (mUp I 162 k (10 * I 162 k + I 160 (I 155 9) - 48)) 155 9 (I 155 9 + 1)
theorem nuT_9 (I : mIt) (k : Int) : nuT I k 155 9 = I 155 9 + 1 := by simp [nuT, mUp, fset]
theorem nuT_k (I : mIt) (k : Int) : nuT I k 162 k = 10 * I 162 k + I 160 (I 155 9) - 48 := by simp [nuT, mUp, fset]
def nuL (k : Int) : Nat → mIt → mIt
  | 0, I => I
  | f + 1, I => if atB I 48 57 = true then nuL k f (nuT I k) else I
theorem nuL_ok (k : Int) (f : Nat) : ∀ I : mIt, TxOK I → TxOK (nuL k f I) := by
  induction f with
  | zero => intro I h; exact h
  | succ f ih =>
    intro I h
    unfold nuL
    split
    · rename_i h2
      exact ih _ (tx_st h (at_lt h2).1 k _)
    · exact h
def nu0 (I : mIt) (k : Int) : mIt := mUp (paI I 32) 162 k 0
def nuI (I : mIt) (k : Int) : mIt := if atB I 32 32 = true then nuL k 4 (nu0 I k) else paI I 32
def nuB (I : mIt) (k : Int) : Bool := atB I 32 32 && decide (paI I 32 155 9 < nuI I k 155 9)
theorem nu_ok {I : mIt} {k : Int} (h : TxOK I) : TxOK (nuI I k) := by
  unfold nuI
  split
  · exact nuL_ok k 4 _ (tx_told (pa_ok h) k 0)
  · exact pa_ok h
def fqM (I : mIt) (w : Int) : Bool × mIt := if w = 6 ∨ w = 7 then (true, I) else if w < 3 then (if rnB I = true then (if rnB (rnI I 0) = true then (rnB (rnI (rnI I 0) 1), rnI (rnI (rnI I 0) 1) 2) else (false, rnI (rnI I 0) 1)) else (false, rnI I 0)) else if w < 5 then (if rnB I = true then (if w = 3 then (nuB (rnI I 0) 1, nuI (rnI I 0) 1) else (rnB (rnI I 0), rnI (rnI I 0) 1)) else (false, rnI I 0)) else (nuB I 0, nuI I 0)
theorem fqM_5 {I : mIt} {w : Int} (h : 5 ≤ w) (h6 : w ≠ 6) (h7 : w ≠ 7) : fqM I w = (nuB I 0, nuI I 0) := by
  unfold fqM
  rw [if_neg (by omega), if_neg (by omega), if_neg (by omega)]
theorem fqM_4 {I : mIt} {w : Int} (h : 3 ≤ w) (h5 : w < 5) : fqM I w = (if rnB I = true then (if w = 3 then (nuB (rnI I 0) 1, nuI (rnI I 0) 1) else (rnB (rnI I 0), rnI (rnI I 0) 1)) else (false, rnI I 0)) := by
  unfold fqM
  rw [if_neg (by omega), if_neg (by omega), if_pos (by omega)]
theorem fqM_2 {I : mIt} {w : Int} (h : w < 3) : fqM I w = (if rnB I = true then (if rnB (rnI I 0) = true then (rnB (rnI (rnI I 0) 1), rnI (rnI (rnI I 0) 1) 2) else (false, rnI (rnI I 0) 1)) else (false, rnI I 0)) := by
  unfold fqM
  rw [if_neg (by omega), if_pos (by omega)]
theorem fqM_6 {I : mIt} {w : Int} (h : w = 6 ∨ w = 7) : fqM I w = (true, I) := if_pos h
def fqB (I : mIt) (w : Int) : Bool := (fqM I w).1 && atB (fqM I w).2 59 59
def fqI (I : mIt) (w : Int) : mIt := if (fqM I w).1 = true then paI (fqM I w).2 59 else (fqM I w).2
set_option maxRecDepth 20000 in
set_option maxHeartbeats 4000000 in
theorem Fn_X6_readsName (k : Nat) (I : mIt) (P : mPt) (hM : isMd P) (hT : TxOK I) (x : Int) (hx0 : 0 ≤ x) (hx1 : x < 3) : WP (k + 3) mX6_readsName none (0, 0) (Rt (some (.inl (bI (rnB I = true)))) (lay0, rnI I x, P)) 0 [(0, .inr (some 155)), (1, .inl x)] [] (lay0, I, P) := by
  refine r_aload_n (d := mX6_readsName) (pc := 0) (i := 0) (v := 155) dX6_readsName_0 rfl rfl ?_
  refine r_bipush (d := mX6_readsName) (pc := 1) (n := 32) dX6_readsName_1 ?_
  refine r_cV1 (d := mX6_readsName) (pc := 3) (dj := mX6_passes) (a := 155) (kd := 6) dX6_readsName_3 mlRX6_149 inX6_passes selX6_passes rfl ly155 (by decide) okX6_passes (by decide) rfl (Nat.le_of_ble_eq_true rfl) (by decide) (by decide) (Fn_X6_passes k I P hM (by repeat (first | exact hT | apply rn_ok | apply nu_ok | apply pa_ok | assumption)) 32) ?_
  refine r_ifb_eq (d := mX6_readsName) (pc := 6) (tgt := 20) dX6_readsName_6 (by decide) (fun h6 => ?_) (fun h6 => ?_)
  · refine r_iconst (d := mX6_readsName) (pc := 20) (n := 0) dX6_readsName_20 ?_
    exact r_zret (d := mX6_readsName) (pc := 21) dX6_readsName_21 rfl (Or.inl rfl) (rtI (by simp [rnB, bI, *]) (by refine memE ?_; simp [rnI, rnB, *])) (by decide) (by decide)
  · have hp := (pa_ok (c := 32) hT).1
    have hp2 := (pa_ok (c := 32) hT).2.1
    refine r_aload_n (d := mX6_readsName) (pc := 9) (i := 0) (v := 155) dX6_readsName_9 rfl rfl ?_
    refine r_bipush (d := mX6_readsName) (pc := 10) (n := 97) dX6_readsName_10 ?_
    refine r_bipush (d := mX6_readsName) (pc := 12) (n := 104) dX6_readsName_12 ?_
    refine r_cV2 (d := mX6_readsName) (pc := 14) (dj := mX6_isAt) (a := 155) (kd := 6) dX6_readsName_14 mlRX6_145 inX6_isAt selX6_isAt rfl ly155 (by decide) okX6_isAt (by decide) rfl (Nat.le_of_ble_eq_true rfl) (by decide) (by decide) (Fn_X6_isAt (k + 1) (paI I 32) P hM (by repeat (first | exact hT | apply rn_ok | apply nu_ok | apply pa_ok | assumption)) 97 104) ?_
    refine r_ifb_ne (d := mX6_readsName) (pc := 17) (tgt := 22) dX6_readsName_17 (by decide) (fun h17 => ?_) (fun h17 => ?_)
    · have ha := at_lt h17
      refine r_aload_n (d := mX6_readsName) (pc := 22) (i := 0) (v := 155) dX6_readsName_22 rfl rfl ?_
      refine r_getRs (d := mX6_readsName) (pc := 23) (a := 155) (kd := 6) (j := 12) (x := 162) dX6_readsName_23 flRX6_28 ly155 (by decide) (by decide) rfl hM.2.2.2.2.2.2 ?_
      refine r_iload_n (d := mX6_readsName) (pc := 26) (i := 1) (v := x) dX6_readsName_26 rfl rfl ?_
      refine r_aload_n (d := mX6_readsName) (pc := 27) (i := 0) (v := 155) dX6_readsName_27 rfl rfl ?_
      refine r_getRs (d := mX6_readsName) (pc := 28) (a := 155) (kd := 6) (j := 6) (x := 160) dX6_readsName_28 flRX6_22 ly155 (by decide) (by decide) rfl hM.2.2.2.2.1 ?_
      refine r_aload_n (d := mX6_readsName) (pc := 31) (i := 0) (v := 155) dX6_readsName_31 rfl rfl ?_
      refine r_getIs (d := mX6_readsName) (pc := 32) (a := 155) (kd := 6) (j := 9) (x := ((paI I 32) 155 9)) dX6_readsName_32 flRX6_138 ly155 (by decide) (by decide) rfl (rfl) ?_
      refine r_ialds (d := mX6_readsName) (pc := 35) (a := 160) (x := ((paI I 32) 160 ((paI I 32) 155 9))) dX6_readsName_35 ly160 (by omega) (by omega) (rfl) ?_
      refine r_bipush (d := mX6_readsName) (pc := 36) (n := 97) dX6_readsName_36 ?_
      refine r_isub (d := mX6_readsName) (pc := 38) dX6_readsName_38 ?_
      refine r_iasts (d := mX6_readsName) (pc := 39) (a := 162) (lay0, mUp (paI I 32) 162 x (((paI I 32) 160 ((paI I 32) 155 9)) - 97), P) dX6_readsName_39 ly162 (by omega) (by omega) rfl ?_
      refine r_aload_n (d := mX6_readsName) (pc := 40) (i := 0) (v := 155) dX6_readsName_40 rfl rfl ?_
      refine r_dup (d := mX6_readsName) (pc := 41) dX6_readsName_41 ?_
      refine r_getIs (d := mX6_readsName) (pc := 42) (a := 155) (kd := 6) (j := 9) (x := ((paI I 32) 155 9)) dX6_readsName_42 flRX6_138 ly155 (by decide) (by decide) rfl (by simp [mUp, cpy, fset]) ?_
      refine r_iconst (d := mX6_readsName) (pc := 45) (n := 1) dX6_readsName_45 ?_
      refine r_iadd (d := mX6_readsName) (pc := 46) dX6_readsName_46 ?_
      refine r_putIs (d := mX6_readsName) (pc := 47) (a := 155) (kd := 6) (j := 9) (lay0, mUp (mUp (paI I 32) 162 x (((paI I 32) 160 ((paI I 32) 155 9)) - 97)) 155 9 (((paI I 32) 155 9) + 1), P) dX6_readsName_47 flRX6_138 ly155 (by decide) (by decide) rfl rfl (Or.inl rfl) rfl ?_
      refine r_iconst (d := mX6_readsName) (pc := 50) (n := 1) dX6_readsName_50 ?_
      exact r_zret (d := mX6_readsName) (pc := 51) dX6_readsName_51 rfl (Or.inr rfl) (rtI (by simp [rnB, bI, *]) (by refine memE ?_; simp [rnI, rnB, *])) (by decide) (by decide)
    · refine r_iconst (d := mX6_readsName) (pc := 20) (n := 0) dX6_readsName_20 ?_
      exact r_zret (d := mX6_readsName) (pc := 21) dX6_readsName_21 rfl (Or.inl rfl) (rtI (by simp [rnB, bI, *]) (by refine memE ?_; simp [rnI, rnB, *])) (by decide) (by decide)
set_option maxRecDepth 20000 in
set_option maxHeartbeats 4000000 in
theorem Fn_X6_readsNumber (k : Nat) (I : mIt) (P : mPt) (hM : isMd P) (hT : TxOK I) (x : Int) (hx0 : 0 ≤ x) (hx1 : x < 3) : WP (k + 3) mX6_readsNumber none (0, 0) (Rt (some (.inl (bI (nuB I x = true)))) (lay0, nuI I x, P)) 0 [(0, .inr (some 155)), (1, .inl x)] [] (lay0, I, P) := by
  refine r_aload_n (d := mX6_readsNumber) (pc := 0) (i := 0) (v := 155) dX6_readsNumber_0 rfl rfl ?_
  refine r_bipush (d := mX6_readsNumber) (pc := 1) (n := 32) dX6_readsNumber_1 ?_
  refine r_cV1 (d := mX6_readsNumber) (pc := 3) (dj := mX6_passes) (a := 155) (kd := 6) dX6_readsNumber_3 mlRX6_149 inX6_passes selX6_passes rfl ly155 (by decide) okX6_passes (by decide) rfl (Nat.le_of_ble_eq_true rfl) (by decide) (by decide) (Fn_X6_passes k I P hM (by repeat (first | exact hT | apply rn_ok | apply nu_ok | apply pa_ok | assumption)) 32) ?_
  refine r_ifb_ne (d := mX6_readsNumber) (pc := 6) (tgt := 11) dX6_readsNumber_6 (by decide) (fun h6 => ?_) (fun h6 => ?_)
  · have hp := (pa_ok (c := 32) hT).1
    have hp2 := (pa_ok (c := 32) hT).2.1
    refine r_aload_n (d := mX6_readsNumber) (pc := 11) (i := 0) (v := 155) dX6_readsNumber_11 rfl rfl ?_
    refine r_getIs (d := mX6_readsNumber) (pc := 12) (a := 155) (kd := 6) (j := 9) (x := ((paI I 32) 155 9)) dX6_readsNumber_12 flRX6_138 ly155 (by decide) (by decide) rfl (rfl) ?_
    refine r_istore_n (d := mX6_readsNumber) (pc := 15) (i := 2) (lv' := [(0, .inr (some 155)), (1, .inl x), (2, .inl ((paI I 32) 155 9))]) dX6_readsNumber_15 rfl (by decide) rfl rfl ?_
    refine r_aload_n (d := mX6_readsNumber) (pc := 16) (i := 0) (v := 155) dX6_readsNumber_16 rfl rfl ?_
    refine r_getRs (d := mX6_readsNumber) (pc := 17) (a := 155) (kd := 6) (j := 12) (x := 162) dX6_readsNumber_17 flRX6_28 ly155 (by decide) (by decide) rfl hM.2.2.2.2.2.2 ?_
    refine r_iload_n (d := mX6_readsNumber) (pc := 20) (i := 1) (v := x) dX6_readsNumber_20 rfl rfl ?_
    refine r_iconst (d := mX6_readsNumber) (pc := 21) (n := 0) dX6_readsNumber_21 ?_
    refine r_iasts (d := mX6_readsNumber) (pc := 22) (a := 162) (lay0, mUp (paI I 32) 162 x 0, P) dX6_readsNumber_22 ly162 (by omega) (by omega) rfl ?_
    have L23 : ∀ f : Nat, ∀ (T : mIt), f ≤ 4 → TxOK T → T 155 9 = paI I 32 155 9 + (4 - (f : Int)) → ((f = 4 ∧ T 162 x = 0) ∨ (f = 3 ∧ 0 ≤ T 162 x ∧ T 162 x ≤ 9) ∨ (f = 2 ∧ 0 ≤ T 162 x ∧ T 162 x ≤ 99) ∨ (f = 1 ∧ 0 ≤ T 162 x ∧ T 162 x ≤ 999) ∨ (f = 0 ∧ 0 ≤ T 162 x ∧ T 162 x ≤ 9999)) → nuI I x = nuL x f T → WP (k + 3) mX6_readsNumber none (0, 0) (Rt (some (.inl (bI (nuB I x = true)))) (lay0, nuI I x, P)) 23 [(0, .inr (some 155)), (1, .inl x), (2, .inl (paI I 32 155 9))] [] (lay0, T, P) := by
      refine loopD _ (fun f ih23 T hf hTT h9 hb hd => ?_)
      have ht1 := hTT.1
      have ht2 := hTT.2.1
      refine r_aload_n (d := mX6_readsNumber) (pc := 23) (i := 0) (v := 155) dX6_readsNumber_23 rfl rfl ?_
      refine r_bipush (d := mX6_readsNumber) (pc := 24) (n := 48) dX6_readsNumber_24 ?_
      refine r_bipush (d := mX6_readsNumber) (pc := 26) (n := 57) dX6_readsNumber_26 ?_
      refine r_cV2 (d := mX6_readsNumber) (pc := 28) (dj := mX6_isAt) (a := 155) (kd := 6) dX6_readsNumber_28 mlRX6_145 inX6_isAt selX6_isAt rfl ly155 (by decide) okX6_isAt (by decide) rfl (Nat.le_of_ble_eq_true rfl) (by decide) (by decide) (Fn_X6_isAt (k + 1) T P hM (by repeat (first | exact hT | apply rn_ok | apply nu_ok | apply pa_ok | assumption)) 48 57) ?_
      refine r_ifb_eq (d := mX6_readsNumber) (pc := 31) (tgt := 85) dX6_readsNumber_31 (by decide) (fun h31 => ?_) (fun h31 => ?_)
      · have hfin : nuI I x = T := by
          rw [hd]
          rcases Nat.eq_zero_or_pos f with q | q
          · rw [q]; rfl
          · rw [show f = (f - 1) + 1 by omega, nuL, if_neg (by first | exact h31 | (exfalso; omega))]
        refine r_aload_n (d := mX6_readsNumber) (pc := 85) (i := 0) (v := 155) dX6_readsNumber_85 rfl rfl ?_
        refine r_getIs (d := mX6_readsNumber) (pc := 86) (a := 155) (kd := 6) (j := 9) (x := (T 155 9)) dX6_readsNumber_86 flRX6_138 ly155 (by decide) (by decide) rfl (rfl) ?_
        refine r_iload_n (d := mX6_readsNumber) (pc := 89) (i := 2) (v := (paI I 32 155 9)) dX6_readsNumber_89 rfl rfl ?_
        refine r_icmp_le (d := mX6_readsNumber) (pc := 90) (tgt := 97) dX6_readsNumber_90 (by decide) (fun h90 => ?_) (fun h90 => ?_)
        · refine r_iconst (d := mX6_readsNumber) (pc := 97) (n := 0) dX6_readsNumber_97 ?_
          exact r_zret (d := mX6_readsNumber) (pc := 98) dX6_readsNumber_98 rfl (Or.inl rfl) (rtI (by first | exact (bI_t (by rw [nuB, hfin, h6]; simp only [Bool.true_and, decide_eq_true_eq]; omega)).symm | exact (bI_f (by rw [nuB, hfin, h6]; simp only [Bool.true_and, decide_eq_true_eq]; omega)).symm) (by refine memE ?_; exact hfin.symm)) (by decide) (by decide)
        · refine r_iconst (d := mX6_readsNumber) (pc := 93) (n := 1) dX6_readsNumber_93 ?_
          refine r_goto (d := mX6_readsNumber) (pc := 94) (tgt := 98) dX6_readsNumber_94 (by decide) ?_
          exact r_zret (d := mX6_readsNumber) (pc := 98) dX6_readsNumber_98 rfl (Or.inr rfl) (rtI (by first | exact (bI_t (by rw [nuB, hfin, h6]; simp only [Bool.true_and, decide_eq_true_eq]; omega)).symm | exact (bI_f (by rw [nuB, hfin, h6]; simp only [Bool.true_and, decide_eq_true_eq]; omega)).symm) (by refine memE ?_; exact hfin.symm)) (by decide) (by decide)
      · have ha := at_lt h31
        refine r_aload_n (d := mX6_readsNumber) (pc := 34) (i := 0) (v := 155) dX6_readsNumber_34 rfl rfl ?_
        refine r_getIs (d := mX6_readsNumber) (pc := 35) (a := 155) (kd := 6) (j := 9) (x := (T 155 9)) dX6_readsNumber_35 flRX6_138 ly155 (by decide) (by decide) rfl (rfl) ?_
        refine r_iload_n (d := mX6_readsNumber) (pc := 38) (i := 2) (v := (paI I 32 155 9)) dX6_readsNumber_38 rfl rfl ?_
        refine r_isub (d := mX6_readsNumber) (pc := 39) dX6_readsNumber_39 ?_
        refine r_iconst (d := mX6_readsNumber) (pc := 40) (n := 4) dX6_readsNumber_40 ?_
        refine r_icmp_ge (d := mX6_readsNumber) (pc := 41) (tgt := 85) dX6_readsNumber_41 (by decide) (fun h41 => ?_) (fun h41 => ?_)
        · have hfin : nuI I x = T := by
            rw [hd]
            rcases Nat.eq_zero_or_pos f with q | q
            · rw [q]; rfl
            · rw [show f = (f - 1) + 1 by omega, nuL, if_neg (by first | exact h31 | (exfalso; omega))]
          refine r_aload_n (d := mX6_readsNumber) (pc := 85) (i := 0) (v := 155) dX6_readsNumber_85 rfl rfl ?_
          refine r_getIs (d := mX6_readsNumber) (pc := 86) (a := 155) (kd := 6) (j := 9) (x := (T 155 9)) dX6_readsNumber_86 flRX6_138 ly155 (by decide) (by decide) rfl (rfl) ?_
          refine r_iload_n (d := mX6_readsNumber) (pc := 89) (i := 2) (v := (paI I 32 155 9)) dX6_readsNumber_89 rfl rfl ?_
          refine r_icmp_le (d := mX6_readsNumber) (pc := 90) (tgt := 97) dX6_readsNumber_90 (by decide) (fun h90 => ?_) (fun h90 => ?_)
          · refine r_iconst (d := mX6_readsNumber) (pc := 97) (n := 0) dX6_readsNumber_97 ?_
            exact r_zret (d := mX6_readsNumber) (pc := 98) dX6_readsNumber_98 rfl (Or.inl rfl) (rtI (by first | exact (bI_t (by rw [nuB, hfin, h6]; simp only [Bool.true_and, decide_eq_true_eq]; omega)).symm | exact (bI_f (by rw [nuB, hfin, h6]; simp only [Bool.true_and, decide_eq_true_eq]; omega)).symm) (by refine memE ?_; exact hfin.symm)) (by decide) (by decide)
          · refine r_iconst (d := mX6_readsNumber) (pc := 93) (n := 1) dX6_readsNumber_93 ?_
            refine r_goto (d := mX6_readsNumber) (pc := 94) (tgt := 98) dX6_readsNumber_94 (by decide) ?_
            exact r_zret (d := mX6_readsNumber) (pc := 98) dX6_readsNumber_98 rfl (Or.inr rfl) (rtI (by first | exact (bI_t (by rw [nuB, hfin, h6]; simp only [Bool.true_and, decide_eq_true_eq]; omega)).symm | exact (bI_f (by rw [nuB, hfin, h6]; simp only [Bool.true_and, decide_eq_true_eq]; omega)).symm) (by refine memE ?_; exact hfin.symm)) (by decide) (by decide)
        · refine r_aload_n (d := mX6_readsNumber) (pc := 44) (i := 0) (v := 155) dX6_readsNumber_44 rfl rfl ?_
          refine r_getRs (d := mX6_readsNumber) (pc := 45) (a := 155) (kd := 6) (j := 12) (x := 162) dX6_readsNumber_45 flRX6_28 ly155 (by decide) (by decide) rfl hM.2.2.2.2.2.2 ?_
          refine r_iload_n (d := mX6_readsNumber) (pc := 48) (i := 1) (v := x) dX6_readsNumber_48 rfl rfl ?_
          refine r_bipush (d := mX6_readsNumber) (pc := 49) (n := 10) dX6_readsNumber_49 ?_
          refine r_aload_n (d := mX6_readsNumber) (pc := 51) (i := 0) (v := 155) dX6_readsNumber_51 rfl rfl ?_
          refine r_getRs (d := mX6_readsNumber) (pc := 52) (a := 155) (kd := 6) (j := 12) (x := 162) dX6_readsNumber_52 flRX6_28 ly155 (by decide) (by decide) rfl hM.2.2.2.2.2.2 ?_
          refine r_iload_n (d := mX6_readsNumber) (pc := 55) (i := 1) (v := x) dX6_readsNumber_55 rfl rfl ?_
          refine r_ialds (d := mX6_readsNumber) (pc := 56) (a := 162) (x := (T 162 x)) dX6_readsNumber_56 ly162 (by omega) (by omega) (rfl) ?_
          refine r_imul (d := mX6_readsNumber) (pc := 57) dX6_readsNumber_57 ?_
          refine r_aload_n (d := mX6_readsNumber) (pc := 58) (i := 0) (v := 155) dX6_readsNumber_58 rfl rfl ?_
          refine r_getRs (d := mX6_readsNumber) (pc := 59) (a := 155) (kd := 6) (j := 6) (x := 160) dX6_readsNumber_59 flRX6_22 ly155 (by decide) (by decide) rfl hM.2.2.2.2.1 ?_
          refine r_aload_n (d := mX6_readsNumber) (pc := 62) (i := 0) (v := 155) dX6_readsNumber_62 rfl rfl ?_
          refine r_getIs (d := mX6_readsNumber) (pc := 63) (a := 155) (kd := 6) (j := 9) (x := (T 155 9)) dX6_readsNumber_63 flRX6_138 ly155 (by decide) (by decide) rfl (rfl) ?_
          refine r_ialds (d := mX6_readsNumber) (pc := 66) (a := 160) (x := (T 160 (T 155 9))) dX6_readsNumber_66 ly160 (by omega) (by omega) (rfl) ?_
          refine r_iadd (d := mX6_readsNumber) (pc := 67) dX6_readsNumber_67 ?_
          refine r_bipush (d := mX6_readsNumber) (pc := 68) (n := 48) dX6_readsNumber_68 ?_
          refine r_isub (d := mX6_readsNumber) (pc := 70) dX6_readsNumber_70 ?_
          refine r_iasts (d := mX6_readsNumber) (pc := 71) (a := 162) (lay0, mUp T 162 x (((10 * (T 162 x)) + (T 160 (T 155 9))) - 48), P) dX6_readsNumber_71 ly162 (by omega) (by omega) rfl ?_
          refine r_aload_n (d := mX6_readsNumber) (pc := 72) (i := 0) (v := 155) dX6_readsNumber_72 rfl rfl ?_
          refine r_dup (d := mX6_readsNumber) (pc := 73) dX6_readsNumber_73 ?_
          refine r_getIs (d := mX6_readsNumber) (pc := 74) (a := 155) (kd := 6) (j := 9) (x := (T 155 9)) dX6_readsNumber_74 flRX6_138 ly155 (by decide) (by decide) rfl (by simp [mUp, cpy, fset]) ?_
          refine r_iconst (d := mX6_readsNumber) (pc := 77) (n := 1) dX6_readsNumber_77 ?_
          refine r_iadd (d := mX6_readsNumber) (pc := 78) dX6_readsNumber_78 ?_
          refine r_putIs (d := mX6_readsNumber) (pc := 79) (a := 155) (kd := 6) (j := 9) (lay0, mUp (mUp T 162 x (((10 * (T 162 x)) + (T 160 (T 155 9))) - 48)) 155 9 ((T 155 9) + 1), P) dX6_readsNumber_79 flRX6_138 ly155 (by decide) (by decide) rfl rfl (Or.inl rfl) rfl ?_
          refine r_goto (d := mX6_readsNumber) (pc := 82) (tgt := 23) dX6_readsNumber_82 (by decide) ?_
          exact wpE (by simp) rfl (by rfl) (ih23 (f - 1) (by omega) (nuT T x) (by omega) (tx_st hTT (at_lt h31).1 x _) (by rw [nuT_9]; omega) (by rw [nuT_k]; omega) (by rw [hd]; conv => lhs; rw [show f = (f - 1) + 1 by omega, nuL, if_pos h31]))
    exact wpE (by simp) rfl (by rfl) (L23 4 (nu0 I x) (by omega) (tx_told (pa_ok hT) x 0) (by simp [nu0, mUp, fset]) (Or.inl ⟨rfl, by simp [nu0, mUp, fset]⟩) (by rw [nuI, if_pos h6]))
  · refine r_iconst (d := mX6_readsNumber) (pc := 9) (n := 0) dX6_readsNumber_9 ?_
    exact r_zret (d := mX6_readsNumber) (pc := 10) dX6_readsNumber_10 rfl (Or.inl rfl) (rtI (by simp [nuB, bI, *]) (by refine memE ?_; simp [nuI, *])) (by decide) (by decide)
set_option maxRecDepth 20000 in
set_option maxHeartbeats 4000000 in
theorem Fn_X6_isForm (k : Nat) (I : mIt) (P : mPt) (hM : isMd P) (hT : TxOK I) (w : Int) : WP (k + 4) mX6_isForm none (0, 0) (Rt (some (.inl (bI (fqB I w = true)))) (lay0, fqI I w, P)) 0 [(0, .inr (some 155)), (1, .inl w)] [] (lay0, I, P) := by
  refine r_iload_n (d := mX6_isForm) (pc := 0) (i := 1) (v := w) dX6_isForm_0 rfl rfl ?_
  refine r_bipush (d := mX6_isForm) (pc := 1) (n := 6) dX6_isForm_1 ?_
  refine r_icmp_eq (d := mX6_isForm) (pc := 3) (tgt := 12) dX6_isForm_3 (by decide) (fun h3 => ?_) (fun h3 => ?_)
  · refine r_iconst (d := mX6_isForm) (pc := 12) (n := 1) dX6_isForm_12 ?_
    refine r_goto (d := mX6_isForm) (pc := 13) (tgt := 17) dX6_isForm_13 (by decide) ?_
    refine r_istore_n (d := mX6_isForm) (pc := 17) (i := 2) (lv' := [(0, .inr (some 155)), (1, .inl w), (2, .inl 1)]) dX6_isForm_17 rfl (by decide) rfl rfl ?_
    refine r_iload_n (d := mX6_isForm) (pc := 18) (i := 1) (v := w) dX6_isForm_18 rfl rfl ?_
    refine r_iconst (d := mX6_isForm) (pc := 19) (n := 3) dX6_isForm_19 ?_
    refine r_icmp_ge (d := mX6_isForm) (pc := 20) (tgt := 56) dX6_isForm_20 (by decide) (fun h20 => ?_) (fun h20 => ?_)
    · refine r_iload_n (d := mX6_isForm) (pc := 56) (i := 1) (v := w) dX6_isForm_56 rfl rfl ?_
      refine r_iconst (d := mX6_isForm) (pc := 57) (n := 5) dX6_isForm_57 ?_
      refine r_icmp_ge (d := mX6_isForm) (pc := 58) (tgt := 102) dX6_isForm_58 (by decide) (fun h58 => ?_) (fun h58 => ?_)
      · refine r_iload_n (d := mX6_isForm) (pc := 102) (i := 2) (v := 1) dX6_isForm_102 rfl rfl ?_
        refine r_if_ne (d := mX6_isForm) (pc := 103) (tgt := 112) dX6_isForm_103 (by decide) (fun _ => ?_) (fun q => absurd q (by decide))
        refine r_iload_n (d := mX6_isForm) (pc := 112) (i := 2) (v := 1) dX6_isForm_112 rfl rfl ?_
        refine r_if_eq (d := mX6_isForm) (pc := 113) (tgt := 129) dX6_isForm_113 (by decide) (fun q => absurd q (by decide)) (fun _ => ?_)
        refine r_aload_n (d := mX6_isForm) (pc := 116) (i := 0) (v := 155) dX6_isForm_116 rfl rfl ?_
        refine r_bipush (d := mX6_isForm) (pc := 117) (n := 59) dX6_isForm_117 ?_
        refine r_cV1 (d := mX6_isForm) (pc := 119) (dj := mX6_passes) (a := 155) (kd := 6) dX6_isForm_119 mlRX6_149 inX6_passes selX6_passes rfl ly155 (by decide) okX6_passes (by decide) rfl (Nat.le_of_ble_eq_true rfl) (by decide) (by decide) (Fn_X6_passes (k + 1) I P hM (by repeat (first | exact hT | apply rn_ok | apply nu_ok | apply pa_ok | assumption)) 59) ?_
        refine r_ifb_eq (d := mX6_isForm) (pc := 122) (tgt := 129) dX6_isForm_122 (by decide) (fun h122 => ?_) (fun h122 => ?_)
        · refine r_iconst (d := mX6_isForm) (pc := 129) (n := 0) dX6_isForm_129 ?_
          exact r_zret (d := mX6_isForm) (pc := 130) dX6_isForm_130 rfl (Or.inl rfl) (rtI (by first | (exfalso; omega) | (rw [fqB, fqM_5 (by omega) (by omega) (by omega)]; simp [bI, *]; done) | (rw [fqB, fqM_4 (by omega) (by omega)]; simp [bI, *]; done) | (rw [fqB, fqM_2 (by omega)]; simp [bI, *]; done) | (rw [fqB, fqM_6 (by omega)]; simp [bI, *]; done)) (by first | (exfalso; omega) | (refine memE ?_; rw [fqI, fqM_5 (by omega) (by omega) (by omega)]; simp [*]; done) | (refine memE ?_; rw [fqI, fqM_4 (by omega) (by omega)]; simp [*]; done) | (refine memE ?_; rw [fqI, fqM_2 (by omega)]; simp [*]; done) | (refine memE ?_; rw [fqI, fqM_6 (by omega)]; simp [*]; done))) (by decide) (by decide)
        · refine r_iconst (d := mX6_isForm) (pc := 125) (n := 1) dX6_isForm_125 ?_
          refine r_goto (d := mX6_isForm) (pc := 126) (tgt := 130) dX6_isForm_126 (by decide) ?_
          exact r_zret (d := mX6_isForm) (pc := 130) dX6_isForm_130 rfl (Or.inr rfl) (rtI (by first | (exfalso; omega) | (rw [fqB, fqM_5 (by omega) (by omega) (by omega)]; simp [bI, *]; done) | (rw [fqB, fqM_4 (by omega) (by omega)]; simp [bI, *]; done) | (rw [fqB, fqM_2 (by omega)]; simp [bI, *]; done) | (rw [fqB, fqM_6 (by omega)]; simp [bI, *]; done)) (by first | (exfalso; omega) | (refine memE ?_; rw [fqI, fqM_5 (by omega) (by omega) (by omega)]; simp [*]; done) | (refine memE ?_; rw [fqI, fqM_4 (by omega) (by omega)]; simp [*]; done) | (refine memE ?_; rw [fqI, fqM_2 (by omega)]; simp [*]; done) | (refine memE ?_; rw [fqI, fqM_6 (by omega)]; simp [*]; done))) (by decide) (by decide)
      · refine r_aload_n (d := mX6_isForm) (pc := 61) (i := 0) (v := 155) dX6_isForm_61 rfl rfl ?_
        refine r_iconst (d := mX6_isForm) (pc := 62) (n := 0) dX6_isForm_62 ?_
        refine r_cV1 (d := mX6_isForm) (pc := 63) (dj := mX6_readsName) (a := 155) (kd := 6) dX6_isForm_63 mlRX6_152 inX6_readsName selX6_readsName rfl ly155 (by decide) okX6_readsName (by decide) rfl (Nat.le_of_ble_eq_true rfl) (by decide) (by decide) (Fn_X6_readsName k I P hM (by repeat (first | exact hT | apply rn_ok | apply nu_ok | apply pa_ok | assumption)) 0 (by decide) (by decide)) ?_
        refine r_ifb_eq (d := mX6_isForm) (pc := 66) (tgt := 97) dX6_isForm_66 (by decide) (fun h66 => ?_) (fun h66 => ?_)
        · refine r_iconst (d := mX6_isForm) (pc := 97) (n := 0) dX6_isForm_97 ?_
          refine r_istore_n (d := mX6_isForm) (pc := 98) (i := 2) (lv' := [(0, .inr (some 155)), (1, .inl w), (2, .inl 0)]) dX6_isForm_98 rfl (by decide) rfl rfl ?_
          refine r_goto (d := mX6_isForm) (pc := 99) (tgt := 112) dX6_isForm_99 (by decide) ?_
          refine r_iload_n (d := mX6_isForm) (pc := 112) (i := 2) (v := 0) dX6_isForm_112 rfl rfl ?_
          refine r_if_eq (d := mX6_isForm) (pc := 113) (tgt := 129) dX6_isForm_113 (by decide) (fun _ => ?_) (fun q => absurd q (by decide))
          refine r_iconst (d := mX6_isForm) (pc := 129) (n := 0) dX6_isForm_129 ?_
          exact r_zret (d := mX6_isForm) (pc := 130) dX6_isForm_130 rfl (Or.inl rfl) (rtI (by first | (exfalso; omega) | (rw [fqB, fqM_5 (by omega) (by omega) (by omega)]; simp [bI, *]; done) | (rw [fqB, fqM_4 (by omega) (by omega)]; simp [bI, *]; done) | (rw [fqB, fqM_2 (by omega)]; simp [bI, *]; done) | (rw [fqB, fqM_6 (by omega)]; simp [bI, *]; done)) (by first | (exfalso; omega) | (refine memE ?_; rw [fqI, fqM_5 (by omega) (by omega) (by omega)]; simp [*]; done) | (refine memE ?_; rw [fqI, fqM_4 (by omega) (by omega)]; simp [*]; done) | (refine memE ?_; rw [fqI, fqM_2 (by omega)]; simp [*]; done) | (refine memE ?_; rw [fqI, fqM_6 (by omega)]; simp [*]; done))) (by decide) (by decide)
        · refine r_iload_n (d := mX6_isForm) (pc := 69) (i := 1) (v := w) dX6_isForm_69 rfl rfl ?_
          refine r_iconst (d := mX6_isForm) (pc := 70) (n := 3) dX6_isForm_70 ?_
          refine r_icmp_ne (d := mX6_isForm) (pc := 71) (tgt := 85) dX6_isForm_71 (by decide) (fun h71 => ?_) (fun h71 => ?_)
          · refine r_aload_n (d := mX6_isForm) (pc := 85) (i := 0) (v := 155) dX6_isForm_85 rfl rfl ?_
            refine r_iconst (d := mX6_isForm) (pc := 86) (n := 1) dX6_isForm_86 ?_
            refine r_cV1 (d := mX6_isForm) (pc := 87) (dj := mX6_readsName) (a := 155) (kd := 6) dX6_isForm_87 mlRX6_152 inX6_readsName selX6_readsName rfl ly155 (by decide) okX6_readsName (by decide) rfl (Nat.le_of_ble_eq_true rfl) (by decide) (by decide) (Fn_X6_readsName k (rnI I 0) P hM (by repeat (first | exact hT | apply rn_ok | apply nu_ok | apply pa_ok | assumption)) 1 (by decide) (by decide)) ?_
            refine r_ifb_eq (d := mX6_isForm) (pc := 90) (tgt := 97) dX6_isForm_90 (by decide) (fun h90 => ?_) (fun h90 => ?_)
            · refine r_iconst (d := mX6_isForm) (pc := 97) (n := 0) dX6_isForm_97 ?_
              refine r_istore_n (d := mX6_isForm) (pc := 98) (i := 2) (lv' := [(0, .inr (some 155)), (1, .inl w), (2, .inl 0)]) dX6_isForm_98 rfl (by decide) rfl rfl ?_
              refine r_goto (d := mX6_isForm) (pc := 99) (tgt := 112) dX6_isForm_99 (by decide) ?_
              refine r_iload_n (d := mX6_isForm) (pc := 112) (i := 2) (v := 0) dX6_isForm_112 rfl rfl ?_
              refine r_if_eq (d := mX6_isForm) (pc := 113) (tgt := 129) dX6_isForm_113 (by decide) (fun _ => ?_) (fun q => absurd q (by decide))
              refine r_iconst (d := mX6_isForm) (pc := 129) (n := 0) dX6_isForm_129 ?_
              exact r_zret (d := mX6_isForm) (pc := 130) dX6_isForm_130 rfl (Or.inl rfl) (rtI (by first | (exfalso; omega) | (rw [fqB, fqM_5 (by omega) (by omega) (by omega)]; simp [bI, *]; done) | (rw [fqB, fqM_4 (by omega) (by omega)]; simp [bI, *]; done) | (rw [fqB, fqM_2 (by omega)]; simp [bI, *]; done) | (rw [fqB, fqM_6 (by omega)]; simp [bI, *]; done)) (by first | (exfalso; omega) | (refine memE ?_; rw [fqI, fqM_5 (by omega) (by omega) (by omega)]; simp [*]; done) | (refine memE ?_; rw [fqI, fqM_4 (by omega) (by omega)]; simp [*]; done) | (refine memE ?_; rw [fqI, fqM_2 (by omega)]; simp [*]; done) | (refine memE ?_; rw [fqI, fqM_6 (by omega)]; simp [*]; done))) (by decide) (by decide)
            · refine r_iconst (d := mX6_isForm) (pc := 93) (n := 1) dX6_isForm_93 ?_
              refine r_goto (d := mX6_isForm) (pc := 94) (tgt := 98) dX6_isForm_94 (by decide) ?_
              refine r_istore_n (d := mX6_isForm) (pc := 98) (i := 2) (lv' := [(0, .inr (some 155)), (1, .inl w), (2, .inl 1)]) dX6_isForm_98 rfl (by decide) rfl rfl ?_
              refine r_goto (d := mX6_isForm) (pc := 99) (tgt := 112) dX6_isForm_99 (by decide) ?_
              refine r_iload_n (d := mX6_isForm) (pc := 112) (i := 2) (v := 1) dX6_isForm_112 rfl rfl ?_
              refine r_if_eq (d := mX6_isForm) (pc := 113) (tgt := 129) dX6_isForm_113 (by decide) (fun q => absurd q (by decide)) (fun _ => ?_)
              refine r_aload_n (d := mX6_isForm) (pc := 116) (i := 0) (v := 155) dX6_isForm_116 rfl rfl ?_
              refine r_bipush (d := mX6_isForm) (pc := 117) (n := 59) dX6_isForm_117 ?_
              refine r_cV1 (d := mX6_isForm) (pc := 119) (dj := mX6_passes) (a := 155) (kd := 6) dX6_isForm_119 mlRX6_149 inX6_passes selX6_passes rfl ly155 (by decide) okX6_passes (by decide) rfl (Nat.le_of_ble_eq_true rfl) (by decide) (by decide) (Fn_X6_passes (k + 1) (rnI (rnI I 0) 1) P hM (by repeat (first | exact hT | apply rn_ok | apply nu_ok | apply pa_ok | assumption)) 59) ?_
              refine r_ifb_eq (d := mX6_isForm) (pc := 122) (tgt := 129) dX6_isForm_122 (by decide) (fun h122 => ?_) (fun h122 => ?_)
              · refine r_iconst (d := mX6_isForm) (pc := 129) (n := 0) dX6_isForm_129 ?_
                exact r_zret (d := mX6_isForm) (pc := 130) dX6_isForm_130 rfl (Or.inl rfl) (rtI (by first | (exfalso; omega) | (rw [fqB, fqM_5 (by omega) (by omega) (by omega)]; simp [bI, *]; done) | (rw [fqB, fqM_4 (by omega) (by omega)]; simp [bI, *]; done) | (rw [fqB, fqM_2 (by omega)]; simp [bI, *]; done) | (rw [fqB, fqM_6 (by omega)]; simp [bI, *]; done)) (by first | (exfalso; omega) | (refine memE ?_; rw [fqI, fqM_5 (by omega) (by omega) (by omega)]; simp [*]; done) | (refine memE ?_; rw [fqI, fqM_4 (by omega) (by omega)]; simp [*]; done) | (refine memE ?_; rw [fqI, fqM_2 (by omega)]; simp [*]; done) | (refine memE ?_; rw [fqI, fqM_6 (by omega)]; simp [*]; done))) (by decide) (by decide)
              · refine r_iconst (d := mX6_isForm) (pc := 125) (n := 1) dX6_isForm_125 ?_
                refine r_goto (d := mX6_isForm) (pc := 126) (tgt := 130) dX6_isForm_126 (by decide) ?_
                exact r_zret (d := mX6_isForm) (pc := 130) dX6_isForm_130 rfl (Or.inr rfl) (rtI (by first | (exfalso; omega) | (rw [fqB, fqM_5 (by omega) (by omega) (by omega)]; simp [bI, *]; done) | (rw [fqB, fqM_4 (by omega) (by omega)]; simp [bI, *]; done) | (rw [fqB, fqM_2 (by omega)]; simp [bI, *]; done) | (rw [fqB, fqM_6 (by omega)]; simp [bI, *]; done)) (by first | (exfalso; omega) | (refine memE ?_; rw [fqI, fqM_5 (by omega) (by omega) (by omega)]; simp [*]; done) | (refine memE ?_; rw [fqI, fqM_4 (by omega) (by omega)]; simp [*]; done) | (refine memE ?_; rw [fqI, fqM_2 (by omega)]; simp [*]; done) | (refine memE ?_; rw [fqI, fqM_6 (by omega)]; simp [*]; done))) (by decide) (by decide)
          · refine r_aload_n (d := mX6_isForm) (pc := 74) (i := 0) (v := 155) dX6_isForm_74 rfl rfl ?_
            refine r_iconst (d := mX6_isForm) (pc := 75) (n := 1) dX6_isForm_75 ?_
            refine r_cV1 (d := mX6_isForm) (pc := 76) (dj := mX6_readsNumber) (a := 155) (kd := 6) dX6_isForm_76 mlRX6_155 inX6_readsNumber selX6_readsNumber rfl ly155 (by decide) okX6_readsNumber (by decide) rfl (Nat.le_of_ble_eq_true rfl) (by decide) (by decide) (Fn_X6_readsNumber k (rnI I 0) P hM (by repeat (first | exact hT | apply rn_ok | apply nu_ok | apply pa_ok | assumption)) 1 (by decide) (by decide)) ?_
            refine r_ifb_eq (d := mX6_isForm) (pc := 79) (tgt := 97) dX6_isForm_79 (by decide) (fun h79 => ?_) (fun h79 => ?_)
            · refine r_iconst (d := mX6_isForm) (pc := 97) (n := 0) dX6_isForm_97 ?_
              refine r_istore_n (d := mX6_isForm) (pc := 98) (i := 2) (lv' := [(0, .inr (some 155)), (1, .inl w), (2, .inl 0)]) dX6_isForm_98 rfl (by decide) rfl rfl ?_
              refine r_goto (d := mX6_isForm) (pc := 99) (tgt := 112) dX6_isForm_99 (by decide) ?_
              refine r_iload_n (d := mX6_isForm) (pc := 112) (i := 2) (v := 0) dX6_isForm_112 rfl rfl ?_
              refine r_if_eq (d := mX6_isForm) (pc := 113) (tgt := 129) dX6_isForm_113 (by decide) (fun _ => ?_) (fun q => absurd q (by decide))
              refine r_iconst (d := mX6_isForm) (pc := 129) (n := 0) dX6_isForm_129 ?_
              exact r_zret (d := mX6_isForm) (pc := 130) dX6_isForm_130 rfl (Or.inl rfl) (rtI (by first | (exfalso; omega) | (rw [fqB, fqM_5 (by omega) (by omega) (by omega)]; simp [bI, *]; done) | (rw [fqB, fqM_4 (by omega) (by omega)]; simp [bI, *]; done) | (rw [fqB, fqM_2 (by omega)]; simp [bI, *]; done) | (rw [fqB, fqM_6 (by omega)]; simp [bI, *]; done)) (by first | (exfalso; omega) | (refine memE ?_; rw [fqI, fqM_5 (by omega) (by omega) (by omega)]; simp [*]; done) | (refine memE ?_; rw [fqI, fqM_4 (by omega) (by omega)]; simp [*]; done) | (refine memE ?_; rw [fqI, fqM_2 (by omega)]; simp [*]; done) | (refine memE ?_; rw [fqI, fqM_6 (by omega)]; simp [*]; done))) (by decide) (by decide)
            · refine r_goto (d := mX6_isForm) (pc := 82) (tgt := 93) dX6_isForm_82 (by decide) ?_
              refine r_iconst (d := mX6_isForm) (pc := 93) (n := 1) dX6_isForm_93 ?_
              refine r_goto (d := mX6_isForm) (pc := 94) (tgt := 98) dX6_isForm_94 (by decide) ?_
              refine r_istore_n (d := mX6_isForm) (pc := 98) (i := 2) (lv' := [(0, .inr (some 155)), (1, .inl w), (2, .inl 1)]) dX6_isForm_98 rfl (by decide) rfl rfl ?_
              refine r_goto (d := mX6_isForm) (pc := 99) (tgt := 112) dX6_isForm_99 (by decide) ?_
              refine r_iload_n (d := mX6_isForm) (pc := 112) (i := 2) (v := 1) dX6_isForm_112 rfl rfl ?_
              refine r_if_eq (d := mX6_isForm) (pc := 113) (tgt := 129) dX6_isForm_113 (by decide) (fun q => absurd q (by decide)) (fun _ => ?_)
              refine r_aload_n (d := mX6_isForm) (pc := 116) (i := 0) (v := 155) dX6_isForm_116 rfl rfl ?_
              refine r_bipush (d := mX6_isForm) (pc := 117) (n := 59) dX6_isForm_117 ?_
              refine r_cV1 (d := mX6_isForm) (pc := 119) (dj := mX6_passes) (a := 155) (kd := 6) dX6_isForm_119 mlRX6_149 inX6_passes selX6_passes rfl ly155 (by decide) okX6_passes (by decide) rfl (Nat.le_of_ble_eq_true rfl) (by decide) (by decide) (Fn_X6_passes (k + 1) (nuI (rnI I 0) 1) P hM (by repeat (first | exact hT | apply rn_ok | apply nu_ok | apply pa_ok | assumption)) 59) ?_
              refine r_ifb_eq (d := mX6_isForm) (pc := 122) (tgt := 129) dX6_isForm_122 (by decide) (fun h122 => ?_) (fun h122 => ?_)
              · refine r_iconst (d := mX6_isForm) (pc := 129) (n := 0) dX6_isForm_129 ?_
                exact r_zret (d := mX6_isForm) (pc := 130) dX6_isForm_130 rfl (Or.inl rfl) (rtI (by first | (exfalso; omega) | (rw [fqB, fqM_5 (by omega) (by omega) (by omega)]; simp [bI, *]; done) | (rw [fqB, fqM_4 (by omega) (by omega)]; simp [bI, *]; done) | (rw [fqB, fqM_2 (by omega)]; simp [bI, *]; done) | (rw [fqB, fqM_6 (by omega)]; simp [bI, *]; done)) (by first | (exfalso; omega) | (refine memE ?_; rw [fqI, fqM_5 (by omega) (by omega) (by omega)]; simp [*]; done) | (refine memE ?_; rw [fqI, fqM_4 (by omega) (by omega)]; simp [*]; done) | (refine memE ?_; rw [fqI, fqM_2 (by omega)]; simp [*]; done) | (refine memE ?_; rw [fqI, fqM_6 (by omega)]; simp [*]; done))) (by decide) (by decide)
              · refine r_iconst (d := mX6_isForm) (pc := 125) (n := 1) dX6_isForm_125 ?_
                refine r_goto (d := mX6_isForm) (pc := 126) (tgt := 130) dX6_isForm_126 (by decide) ?_
                exact r_zret (d := mX6_isForm) (pc := 130) dX6_isForm_130 rfl (Or.inr rfl) (rtI (by first | (exfalso; omega) | (rw [fqB, fqM_5 (by omega) (by omega) (by omega)]; simp [bI, *]; done) | (rw [fqB, fqM_4 (by omega) (by omega)]; simp [bI, *]; done) | (rw [fqB, fqM_2 (by omega)]; simp [bI, *]; done) | (rw [fqB, fqM_6 (by omega)]; simp [bI, *]; done)) (by first | (exfalso; omega) | (refine memE ?_; rw [fqI, fqM_5 (by omega) (by omega) (by omega)]; simp [*]; done) | (refine memE ?_; rw [fqI, fqM_4 (by omega) (by omega)]; simp [*]; done) | (refine memE ?_; rw [fqI, fqM_2 (by omega)]; simp [*]; done) | (refine memE ?_; rw [fqI, fqM_6 (by omega)]; simp [*]; done))) (by decide) (by decide)
    · refine r_aload_n (d := mX6_isForm) (pc := 23) (i := 0) (v := 155) dX6_isForm_23 rfl rfl ?_
      refine r_iconst (d := mX6_isForm) (pc := 24) (n := 0) dX6_isForm_24 ?_
      refine r_cV1 (d := mX6_isForm) (pc := 25) (dj := mX6_readsName) (a := 155) (kd := 6) dX6_isForm_25 mlRX6_152 inX6_readsName selX6_readsName rfl ly155 (by decide) okX6_readsName (by decide) rfl (Nat.le_of_ble_eq_true rfl) (by decide) (by decide) (Fn_X6_readsName k I P hM (by repeat (first | exact hT | apply rn_ok | apply nu_ok | apply pa_ok | assumption)) 0 (by decide) (by decide)) ?_
      refine r_ifb_eq (d := mX6_isForm) (pc := 28) (tgt := 51) dX6_isForm_28 (by decide) (fun h28 => ?_) (fun h28 => ?_)
      · refine r_iconst (d := mX6_isForm) (pc := 51) (n := 0) dX6_isForm_51 ?_
        refine r_istore_n (d := mX6_isForm) (pc := 52) (i := 2) (lv' := [(0, .inr (some 155)), (1, .inl w), (2, .inl 0)]) dX6_isForm_52 rfl (by decide) rfl rfl ?_
        refine r_goto (d := mX6_isForm) (pc := 53) (tgt := 112) dX6_isForm_53 (by decide) ?_
        refine r_iload_n (d := mX6_isForm) (pc := 112) (i := 2) (v := 0) dX6_isForm_112 rfl rfl ?_
        refine r_if_eq (d := mX6_isForm) (pc := 113) (tgt := 129) dX6_isForm_113 (by decide) (fun _ => ?_) (fun q => absurd q (by decide))
        refine r_iconst (d := mX6_isForm) (pc := 129) (n := 0) dX6_isForm_129 ?_
        exact r_zret (d := mX6_isForm) (pc := 130) dX6_isForm_130 rfl (Or.inl rfl) (rtI (by first | (exfalso; omega) | (rw [fqB, fqM_5 (by omega) (by omega) (by omega)]; simp [bI, *]; done) | (rw [fqB, fqM_4 (by omega) (by omega)]; simp [bI, *]; done) | (rw [fqB, fqM_2 (by omega)]; simp [bI, *]; done) | (rw [fqB, fqM_6 (by omega)]; simp [bI, *]; done)) (by first | (exfalso; omega) | (refine memE ?_; rw [fqI, fqM_5 (by omega) (by omega) (by omega)]; simp [*]; done) | (refine memE ?_; rw [fqI, fqM_4 (by omega) (by omega)]; simp [*]; done) | (refine memE ?_; rw [fqI, fqM_2 (by omega)]; simp [*]; done) | (refine memE ?_; rw [fqI, fqM_6 (by omega)]; simp [*]; done))) (by decide) (by decide)
      · refine r_aload_n (d := mX6_isForm) (pc := 31) (i := 0) (v := 155) dX6_isForm_31 rfl rfl ?_
        refine r_iconst (d := mX6_isForm) (pc := 32) (n := 1) dX6_isForm_32 ?_
        refine r_cV1 (d := mX6_isForm) (pc := 33) (dj := mX6_readsName) (a := 155) (kd := 6) dX6_isForm_33 mlRX6_152 inX6_readsName selX6_readsName rfl ly155 (by decide) okX6_readsName (by decide) rfl (Nat.le_of_ble_eq_true rfl) (by decide) (by decide) (Fn_X6_readsName k (rnI I 0) P hM (by repeat (first | exact hT | apply rn_ok | apply nu_ok | apply pa_ok | assumption)) 1 (by decide) (by decide)) ?_
        refine r_ifb_eq (d := mX6_isForm) (pc := 36) (tgt := 51) dX6_isForm_36 (by decide) (fun h36 => ?_) (fun h36 => ?_)
        · refine r_iconst (d := mX6_isForm) (pc := 51) (n := 0) dX6_isForm_51 ?_
          refine r_istore_n (d := mX6_isForm) (pc := 52) (i := 2) (lv' := [(0, .inr (some 155)), (1, .inl w), (2, .inl 0)]) dX6_isForm_52 rfl (by decide) rfl rfl ?_
          refine r_goto (d := mX6_isForm) (pc := 53) (tgt := 112) dX6_isForm_53 (by decide) ?_
          refine r_iload_n (d := mX6_isForm) (pc := 112) (i := 2) (v := 0) dX6_isForm_112 rfl rfl ?_
          refine r_if_eq (d := mX6_isForm) (pc := 113) (tgt := 129) dX6_isForm_113 (by decide) (fun _ => ?_) (fun q => absurd q (by decide))
          refine r_iconst (d := mX6_isForm) (pc := 129) (n := 0) dX6_isForm_129 ?_
          exact r_zret (d := mX6_isForm) (pc := 130) dX6_isForm_130 rfl (Or.inl rfl) (rtI (by first | (exfalso; omega) | (rw [fqB, fqM_5 (by omega) (by omega) (by omega)]; simp [bI, *]; done) | (rw [fqB, fqM_4 (by omega) (by omega)]; simp [bI, *]; done) | (rw [fqB, fqM_2 (by omega)]; simp [bI, *]; done) | (rw [fqB, fqM_6 (by omega)]; simp [bI, *]; done)) (by first | (exfalso; omega) | (refine memE ?_; rw [fqI, fqM_5 (by omega) (by omega) (by omega)]; simp [*]; done) | (refine memE ?_; rw [fqI, fqM_4 (by omega) (by omega)]; simp [*]; done) | (refine memE ?_; rw [fqI, fqM_2 (by omega)]; simp [*]; done) | (refine memE ?_; rw [fqI, fqM_6 (by omega)]; simp [*]; done))) (by decide) (by decide)
        · refine r_aload_n (d := mX6_isForm) (pc := 39) (i := 0) (v := 155) dX6_isForm_39 rfl rfl ?_
          refine r_iconst (d := mX6_isForm) (pc := 40) (n := 2) dX6_isForm_40 ?_
          refine r_cV1 (d := mX6_isForm) (pc := 41) (dj := mX6_readsName) (a := 155) (kd := 6) dX6_isForm_41 mlRX6_152 inX6_readsName selX6_readsName rfl ly155 (by decide) okX6_readsName (by decide) rfl (Nat.le_of_ble_eq_true rfl) (by decide) (by decide) (Fn_X6_readsName k (rnI (rnI I 0) 1) P hM (by repeat (first | exact hT | apply rn_ok | apply nu_ok | apply pa_ok | assumption)) 2 (by decide) (by decide)) ?_
          refine r_ifb_eq (d := mX6_isForm) (pc := 44) (tgt := 51) dX6_isForm_44 (by decide) (fun h44 => ?_) (fun h44 => ?_)
          · refine r_iconst (d := mX6_isForm) (pc := 51) (n := 0) dX6_isForm_51 ?_
            refine r_istore_n (d := mX6_isForm) (pc := 52) (i := 2) (lv' := [(0, .inr (some 155)), (1, .inl w), (2, .inl 0)]) dX6_isForm_52 rfl (by decide) rfl rfl ?_
            refine r_goto (d := mX6_isForm) (pc := 53) (tgt := 112) dX6_isForm_53 (by decide) ?_
            refine r_iload_n (d := mX6_isForm) (pc := 112) (i := 2) (v := 0) dX6_isForm_112 rfl rfl ?_
            refine r_if_eq (d := mX6_isForm) (pc := 113) (tgt := 129) dX6_isForm_113 (by decide) (fun _ => ?_) (fun q => absurd q (by decide))
            refine r_iconst (d := mX6_isForm) (pc := 129) (n := 0) dX6_isForm_129 ?_
            exact r_zret (d := mX6_isForm) (pc := 130) dX6_isForm_130 rfl (Or.inl rfl) (rtI (by first | (exfalso; omega) | (rw [fqB, fqM_5 (by omega) (by omega) (by omega)]; simp [bI, *]; done) | (rw [fqB, fqM_4 (by omega) (by omega)]; simp [bI, *]; done) | (rw [fqB, fqM_2 (by omega)]; simp [bI, *]; done) | (rw [fqB, fqM_6 (by omega)]; simp [bI, *]; done)) (by first | (exfalso; omega) | (refine memE ?_; rw [fqI, fqM_5 (by omega) (by omega) (by omega)]; simp [*]; done) | (refine memE ?_; rw [fqI, fqM_4 (by omega) (by omega)]; simp [*]; done) | (refine memE ?_; rw [fqI, fqM_2 (by omega)]; simp [*]; done) | (refine memE ?_; rw [fqI, fqM_6 (by omega)]; simp [*]; done))) (by decide) (by decide)
          · refine r_iconst (d := mX6_isForm) (pc := 47) (n := 1) dX6_isForm_47 ?_
            refine r_goto (d := mX6_isForm) (pc := 48) (tgt := 52) dX6_isForm_48 (by decide) ?_
            refine r_istore_n (d := mX6_isForm) (pc := 52) (i := 2) (lv' := [(0, .inr (some 155)), (1, .inl w), (2, .inl 1)]) dX6_isForm_52 rfl (by decide) rfl rfl ?_
            refine r_goto (d := mX6_isForm) (pc := 53) (tgt := 112) dX6_isForm_53 (by decide) ?_
            refine r_iload_n (d := mX6_isForm) (pc := 112) (i := 2) (v := 1) dX6_isForm_112 rfl rfl ?_
            refine r_if_eq (d := mX6_isForm) (pc := 113) (tgt := 129) dX6_isForm_113 (by decide) (fun q => absurd q (by decide)) (fun _ => ?_)
            refine r_aload_n (d := mX6_isForm) (pc := 116) (i := 0) (v := 155) dX6_isForm_116 rfl rfl ?_
            refine r_bipush (d := mX6_isForm) (pc := 117) (n := 59) dX6_isForm_117 ?_
            refine r_cV1 (d := mX6_isForm) (pc := 119) (dj := mX6_passes) (a := 155) (kd := 6) dX6_isForm_119 mlRX6_149 inX6_passes selX6_passes rfl ly155 (by decide) okX6_passes (by decide) rfl (Nat.le_of_ble_eq_true rfl) (by decide) (by decide) (Fn_X6_passes (k + 1) (rnI (rnI (rnI I 0) 1) 2) P hM (by repeat (first | exact hT | apply rn_ok | apply nu_ok | apply pa_ok | assumption)) 59) ?_
            refine r_ifb_eq (d := mX6_isForm) (pc := 122) (tgt := 129) dX6_isForm_122 (by decide) (fun h122 => ?_) (fun h122 => ?_)
            · refine r_iconst (d := mX6_isForm) (pc := 129) (n := 0) dX6_isForm_129 ?_
              exact r_zret (d := mX6_isForm) (pc := 130) dX6_isForm_130 rfl (Or.inl rfl) (rtI (by first | (exfalso; omega) | (rw [fqB, fqM_5 (by omega) (by omega) (by omega)]; simp [bI, *]; done) | (rw [fqB, fqM_4 (by omega) (by omega)]; simp [bI, *]; done) | (rw [fqB, fqM_2 (by omega)]; simp [bI, *]; done) | (rw [fqB, fqM_6 (by omega)]; simp [bI, *]; done)) (by first | (exfalso; omega) | (refine memE ?_; rw [fqI, fqM_5 (by omega) (by omega) (by omega)]; simp [*]; done) | (refine memE ?_; rw [fqI, fqM_4 (by omega) (by omega)]; simp [*]; done) | (refine memE ?_; rw [fqI, fqM_2 (by omega)]; simp [*]; done) | (refine memE ?_; rw [fqI, fqM_6 (by omega)]; simp [*]; done))) (by decide) (by decide)
            · refine r_iconst (d := mX6_isForm) (pc := 125) (n := 1) dX6_isForm_125 ?_
              refine r_goto (d := mX6_isForm) (pc := 126) (tgt := 130) dX6_isForm_126 (by decide) ?_
              exact r_zret (d := mX6_isForm) (pc := 130) dX6_isForm_130 rfl (Or.inr rfl) (rtI (by first | (exfalso; omega) | (rw [fqB, fqM_5 (by omega) (by omega) (by omega)]; simp [bI, *]; done) | (rw [fqB, fqM_4 (by omega) (by omega)]; simp [bI, *]; done) | (rw [fqB, fqM_2 (by omega)]; simp [bI, *]; done) | (rw [fqB, fqM_6 (by omega)]; simp [bI, *]; done)) (by first | (exfalso; omega) | (refine memE ?_; rw [fqI, fqM_5 (by omega) (by omega) (by omega)]; simp [*]; done) | (refine memE ?_; rw [fqI, fqM_4 (by omega) (by omega)]; simp [*]; done) | (refine memE ?_; rw [fqI, fqM_2 (by omega)]; simp [*]; done) | (refine memE ?_; rw [fqI, fqM_6 (by omega)]; simp [*]; done))) (by decide) (by decide)
  · refine r_iload_n (d := mX6_isForm) (pc := 6) (i := 1) (v := w) dX6_isForm_6 rfl rfl ?_
    refine r_bipush (d := mX6_isForm) (pc := 7) (n := 7) dX6_isForm_7 ?_
    refine r_icmp_ne (d := mX6_isForm) (pc := 9) (tgt := 16) dX6_isForm_9 (by decide) (fun h9 => ?_) (fun h9 => ?_)
    · refine r_iconst (d := mX6_isForm) (pc := 16) (n := 0) dX6_isForm_16 ?_
      refine r_istore_n (d := mX6_isForm) (pc := 17) (i := 2) (lv' := [(0, .inr (some 155)), (1, .inl w), (2, .inl 0)]) dX6_isForm_17 rfl (by decide) rfl rfl ?_
      refine r_iload_n (d := mX6_isForm) (pc := 18) (i := 1) (v := w) dX6_isForm_18 rfl rfl ?_
      refine r_iconst (d := mX6_isForm) (pc := 19) (n := 3) dX6_isForm_19 ?_
      refine r_icmp_ge (d := mX6_isForm) (pc := 20) (tgt := 56) dX6_isForm_20 (by decide) (fun h20 => ?_) (fun h20 => ?_)
      · refine r_iload_n (d := mX6_isForm) (pc := 56) (i := 1) (v := w) dX6_isForm_56 rfl rfl ?_
        refine r_iconst (d := mX6_isForm) (pc := 57) (n := 5) dX6_isForm_57 ?_
        refine r_icmp_ge (d := mX6_isForm) (pc := 58) (tgt := 102) dX6_isForm_58 (by decide) (fun h58 => ?_) (fun h58 => ?_)
        · refine r_iload_n (d := mX6_isForm) (pc := 102) (i := 2) (v := 0) dX6_isForm_102 rfl rfl ?_
          refine r_if_ne (d := mX6_isForm) (pc := 103) (tgt := 112) dX6_isForm_103 (by decide) (fun q => absurd q (by decide)) (fun _ => ?_)
          refine r_aload_n (d := mX6_isForm) (pc := 106) (i := 0) (v := 155) dX6_isForm_106 rfl rfl ?_
          refine r_iconst (d := mX6_isForm) (pc := 107) (n := 0) dX6_isForm_107 ?_
          refine r_cV1 (d := mX6_isForm) (pc := 108) (dj := mX6_readsNumber) (a := 155) (kd := 6) dX6_isForm_108 mlRX6_155 inX6_readsNumber selX6_readsNumber rfl ly155 (by decide) okX6_readsNumber (by decide) rfl (Nat.le_of_ble_eq_true rfl) (by decide) (by decide) (Fn_X6_readsNumber k I P hM (by repeat (first | exact hT | apply rn_ok | apply nu_ok | apply pa_ok | assumption)) 0 (by decide) (by decide)) ?_
          refine r_istore_n (d := mX6_isForm) (pc := 111) (i := 2) (lv' := [(0, .inr (some 155)), (1, .inl w), (2, .inl (bI (nuB I 0 = true)))]) dX6_isForm_111 rfl (by decide) rfl rfl ?_
          refine r_iload_n (d := mX6_isForm) (pc := 112) (i := 2) (v := bI (nuB I 0 = true)) dX6_isForm_112 rfl rfl ?_
          refine r_ifb_eq (d := mX6_isForm) (pc := 113) (tgt := 129) dX6_isForm_113 (by decide) (fun h113 => ?_) (fun h113 => ?_)
          · refine r_iconst (d := mX6_isForm) (pc := 129) (n := 0) dX6_isForm_129 ?_
            exact r_zret (d := mX6_isForm) (pc := 130) dX6_isForm_130 rfl (Or.inl rfl) (rtI (by first | (exfalso; omega) | (rw [fqB, fqM_5 (by omega) (by omega) (by omega)]; simp [bI, *]; done) | (rw [fqB, fqM_4 (by omega) (by omega)]; simp [bI, *]; done) | (rw [fqB, fqM_2 (by omega)]; simp [bI, *]; done) | (rw [fqB, fqM_6 (by omega)]; simp [bI, *]; done)) (by first | (exfalso; omega) | (refine memE ?_; rw [fqI, fqM_5 (by omega) (by omega) (by omega)]; simp [*]; done) | (refine memE ?_; rw [fqI, fqM_4 (by omega) (by omega)]; simp [*]; done) | (refine memE ?_; rw [fqI, fqM_2 (by omega)]; simp [*]; done) | (refine memE ?_; rw [fqI, fqM_6 (by omega)]; simp [*]; done))) (by decide) (by decide)
          · refine r_aload_n (d := mX6_isForm) (pc := 116) (i := 0) (v := 155) dX6_isForm_116 rfl rfl ?_
            refine r_bipush (d := mX6_isForm) (pc := 117) (n := 59) dX6_isForm_117 ?_
            refine r_cV1 (d := mX6_isForm) (pc := 119) (dj := mX6_passes) (a := 155) (kd := 6) dX6_isForm_119 mlRX6_149 inX6_passes selX6_passes rfl ly155 (by decide) okX6_passes (by decide) rfl (Nat.le_of_ble_eq_true rfl) (by decide) (by decide) (Fn_X6_passes (k + 1) (nuI I 0) P hM (by repeat (first | exact hT | apply rn_ok | apply nu_ok | apply pa_ok | assumption)) 59) ?_
            refine r_ifb_eq (d := mX6_isForm) (pc := 122) (tgt := 129) dX6_isForm_122 (by decide) (fun h122 => ?_) (fun h122 => ?_)
            · refine r_iconst (d := mX6_isForm) (pc := 129) (n := 0) dX6_isForm_129 ?_
              exact r_zret (d := mX6_isForm) (pc := 130) dX6_isForm_130 rfl (Or.inl rfl) (rtI (by first | (exfalso; omega) | (rw [fqB, fqM_5 (by omega) (by omega) (by omega)]; simp [bI, *]; done) | (rw [fqB, fqM_4 (by omega) (by omega)]; simp [bI, *]; done) | (rw [fqB, fqM_2 (by omega)]; simp [bI, *]; done) | (rw [fqB, fqM_6 (by omega)]; simp [bI, *]; done)) (by first | (exfalso; omega) | (refine memE ?_; rw [fqI, fqM_5 (by omega) (by omega) (by omega)]; simp [*]; done) | (refine memE ?_; rw [fqI, fqM_4 (by omega) (by omega)]; simp [*]; done) | (refine memE ?_; rw [fqI, fqM_2 (by omega)]; simp [*]; done) | (refine memE ?_; rw [fqI, fqM_6 (by omega)]; simp [*]; done))) (by decide) (by decide)
            · refine r_iconst (d := mX6_isForm) (pc := 125) (n := 1) dX6_isForm_125 ?_
              refine r_goto (d := mX6_isForm) (pc := 126) (tgt := 130) dX6_isForm_126 (by decide) ?_
              exact r_zret (d := mX6_isForm) (pc := 130) dX6_isForm_130 rfl (Or.inr rfl) (rtI (by first | (exfalso; omega) | (rw [fqB, fqM_5 (by omega) (by omega) (by omega)]; simp [bI, *]; done) | (rw [fqB, fqM_4 (by omega) (by omega)]; simp [bI, *]; done) | (rw [fqB, fqM_2 (by omega)]; simp [bI, *]; done) | (rw [fqB, fqM_6 (by omega)]; simp [bI, *]; done)) (by first | (exfalso; omega) | (refine memE ?_; rw [fqI, fqM_5 (by omega) (by omega) (by omega)]; simp [*]; done) | (refine memE ?_; rw [fqI, fqM_4 (by omega) (by omega)]; simp [*]; done) | (refine memE ?_; rw [fqI, fqM_2 (by omega)]; simp [*]; done) | (refine memE ?_; rw [fqI, fqM_6 (by omega)]; simp [*]; done))) (by decide) (by decide)
        · refine r_aload_n (d := mX6_isForm) (pc := 61) (i := 0) (v := 155) dX6_isForm_61 rfl rfl ?_
          refine r_iconst (d := mX6_isForm) (pc := 62) (n := 0) dX6_isForm_62 ?_
          refine r_cV1 (d := mX6_isForm) (pc := 63) (dj := mX6_readsName) (a := 155) (kd := 6) dX6_isForm_63 mlRX6_152 inX6_readsName selX6_readsName rfl ly155 (by decide) okX6_readsName (by decide) rfl (Nat.le_of_ble_eq_true rfl) (by decide) (by decide) (Fn_X6_readsName k I P hM (by repeat (first | exact hT | apply rn_ok | apply nu_ok | apply pa_ok | assumption)) 0 (by decide) (by decide)) ?_
          refine r_ifb_eq (d := mX6_isForm) (pc := 66) (tgt := 97) dX6_isForm_66 (by decide) (fun h66 => ?_) (fun h66 => ?_)
          · refine r_iconst (d := mX6_isForm) (pc := 97) (n := 0) dX6_isForm_97 ?_
            refine r_istore_n (d := mX6_isForm) (pc := 98) (i := 2) (lv' := [(0, .inr (some 155)), (1, .inl w), (2, .inl 0)]) dX6_isForm_98 rfl (by decide) rfl rfl ?_
            refine r_goto (d := mX6_isForm) (pc := 99) (tgt := 112) dX6_isForm_99 (by decide) ?_
            refine r_iload_n (d := mX6_isForm) (pc := 112) (i := 2) (v := 0) dX6_isForm_112 rfl rfl ?_
            refine r_if_eq (d := mX6_isForm) (pc := 113) (tgt := 129) dX6_isForm_113 (by decide) (fun _ => ?_) (fun q => absurd q (by decide))
            refine r_iconst (d := mX6_isForm) (pc := 129) (n := 0) dX6_isForm_129 ?_
            exact r_zret (d := mX6_isForm) (pc := 130) dX6_isForm_130 rfl (Or.inl rfl) (rtI (by first | (exfalso; omega) | (rw [fqB, fqM_5 (by omega) (by omega) (by omega)]; simp [bI, *]; done) | (rw [fqB, fqM_4 (by omega) (by omega)]; simp [bI, *]; done) | (rw [fqB, fqM_2 (by omega)]; simp [bI, *]; done) | (rw [fqB, fqM_6 (by omega)]; simp [bI, *]; done)) (by first | (exfalso; omega) | (refine memE ?_; rw [fqI, fqM_5 (by omega) (by omega) (by omega)]; simp [*]; done) | (refine memE ?_; rw [fqI, fqM_4 (by omega) (by omega)]; simp [*]; done) | (refine memE ?_; rw [fqI, fqM_2 (by omega)]; simp [*]; done) | (refine memE ?_; rw [fqI, fqM_6 (by omega)]; simp [*]; done))) (by decide) (by decide)
          · refine r_iload_n (d := mX6_isForm) (pc := 69) (i := 1) (v := w) dX6_isForm_69 rfl rfl ?_
            refine r_iconst (d := mX6_isForm) (pc := 70) (n := 3) dX6_isForm_70 ?_
            refine r_icmp_ne (d := mX6_isForm) (pc := 71) (tgt := 85) dX6_isForm_71 (by decide) (fun h71 => ?_) (fun h71 => ?_)
            · refine r_aload_n (d := mX6_isForm) (pc := 85) (i := 0) (v := 155) dX6_isForm_85 rfl rfl ?_
              refine r_iconst (d := mX6_isForm) (pc := 86) (n := 1) dX6_isForm_86 ?_
              refine r_cV1 (d := mX6_isForm) (pc := 87) (dj := mX6_readsName) (a := 155) (kd := 6) dX6_isForm_87 mlRX6_152 inX6_readsName selX6_readsName rfl ly155 (by decide) okX6_readsName (by decide) rfl (Nat.le_of_ble_eq_true rfl) (by decide) (by decide) (Fn_X6_readsName k (rnI I 0) P hM (by repeat (first | exact hT | apply rn_ok | apply nu_ok | apply pa_ok | assumption)) 1 (by decide) (by decide)) ?_
              refine r_ifb_eq (d := mX6_isForm) (pc := 90) (tgt := 97) dX6_isForm_90 (by decide) (fun h90 => ?_) (fun h90 => ?_)
              · refine r_iconst (d := mX6_isForm) (pc := 97) (n := 0) dX6_isForm_97 ?_
                refine r_istore_n (d := mX6_isForm) (pc := 98) (i := 2) (lv' := [(0, .inr (some 155)), (1, .inl w), (2, .inl 0)]) dX6_isForm_98 rfl (by decide) rfl rfl ?_
                refine r_goto (d := mX6_isForm) (pc := 99) (tgt := 112) dX6_isForm_99 (by decide) ?_
                refine r_iload_n (d := mX6_isForm) (pc := 112) (i := 2) (v := 0) dX6_isForm_112 rfl rfl ?_
                refine r_if_eq (d := mX6_isForm) (pc := 113) (tgt := 129) dX6_isForm_113 (by decide) (fun _ => ?_) (fun q => absurd q (by decide))
                refine r_iconst (d := mX6_isForm) (pc := 129) (n := 0) dX6_isForm_129 ?_
                exact r_zret (d := mX6_isForm) (pc := 130) dX6_isForm_130 rfl (Or.inl rfl) (rtI (by first | (exfalso; omega) | (rw [fqB, fqM_5 (by omega) (by omega) (by omega)]; simp [bI, *]; done) | (rw [fqB, fqM_4 (by omega) (by omega)]; simp [bI, *]; done) | (rw [fqB, fqM_2 (by omega)]; simp [bI, *]; done) | (rw [fqB, fqM_6 (by omega)]; simp [bI, *]; done)) (by first | (exfalso; omega) | (refine memE ?_; rw [fqI, fqM_5 (by omega) (by omega) (by omega)]; simp [*]; done) | (refine memE ?_; rw [fqI, fqM_4 (by omega) (by omega)]; simp [*]; done) | (refine memE ?_; rw [fqI, fqM_2 (by omega)]; simp [*]; done) | (refine memE ?_; rw [fqI, fqM_6 (by omega)]; simp [*]; done))) (by decide) (by decide)
              · refine r_iconst (d := mX6_isForm) (pc := 93) (n := 1) dX6_isForm_93 ?_
                refine r_goto (d := mX6_isForm) (pc := 94) (tgt := 98) dX6_isForm_94 (by decide) ?_
                refine r_istore_n (d := mX6_isForm) (pc := 98) (i := 2) (lv' := [(0, .inr (some 155)), (1, .inl w), (2, .inl 1)]) dX6_isForm_98 rfl (by decide) rfl rfl ?_
                refine r_goto (d := mX6_isForm) (pc := 99) (tgt := 112) dX6_isForm_99 (by decide) ?_
                refine r_iload_n (d := mX6_isForm) (pc := 112) (i := 2) (v := 1) dX6_isForm_112 rfl rfl ?_
                refine r_if_eq (d := mX6_isForm) (pc := 113) (tgt := 129) dX6_isForm_113 (by decide) (fun q => absurd q (by decide)) (fun _ => ?_)
                refine r_aload_n (d := mX6_isForm) (pc := 116) (i := 0) (v := 155) dX6_isForm_116 rfl rfl ?_
                refine r_bipush (d := mX6_isForm) (pc := 117) (n := 59) dX6_isForm_117 ?_
                refine r_cV1 (d := mX6_isForm) (pc := 119) (dj := mX6_passes) (a := 155) (kd := 6) dX6_isForm_119 mlRX6_149 inX6_passes selX6_passes rfl ly155 (by decide) okX6_passes (by decide) rfl (Nat.le_of_ble_eq_true rfl) (by decide) (by decide) (Fn_X6_passes (k + 1) (rnI (rnI I 0) 1) P hM (by repeat (first | exact hT | apply rn_ok | apply nu_ok | apply pa_ok | assumption)) 59) ?_
                refine r_ifb_eq (d := mX6_isForm) (pc := 122) (tgt := 129) dX6_isForm_122 (by decide) (fun h122 => ?_) (fun h122 => ?_)
                · refine r_iconst (d := mX6_isForm) (pc := 129) (n := 0) dX6_isForm_129 ?_
                  exact r_zret (d := mX6_isForm) (pc := 130) dX6_isForm_130 rfl (Or.inl rfl) (rtI (by first | (exfalso; omega) | (rw [fqB, fqM_5 (by omega) (by omega) (by omega)]; simp [bI, *]; done) | (rw [fqB, fqM_4 (by omega) (by omega)]; simp [bI, *]; done) | (rw [fqB, fqM_2 (by omega)]; simp [bI, *]; done) | (rw [fqB, fqM_6 (by omega)]; simp [bI, *]; done)) (by first | (exfalso; omega) | (refine memE ?_; rw [fqI, fqM_5 (by omega) (by omega) (by omega)]; simp [*]; done) | (refine memE ?_; rw [fqI, fqM_4 (by omega) (by omega)]; simp [*]; done) | (refine memE ?_; rw [fqI, fqM_2 (by omega)]; simp [*]; done) | (refine memE ?_; rw [fqI, fqM_6 (by omega)]; simp [*]; done))) (by decide) (by decide)
                · refine r_iconst (d := mX6_isForm) (pc := 125) (n := 1) dX6_isForm_125 ?_
                  refine r_goto (d := mX6_isForm) (pc := 126) (tgt := 130) dX6_isForm_126 (by decide) ?_
                  exact r_zret (d := mX6_isForm) (pc := 130) dX6_isForm_130 rfl (Or.inr rfl) (rtI (by first | (exfalso; omega) | (rw [fqB, fqM_5 (by omega) (by omega) (by omega)]; simp [bI, *]; done) | (rw [fqB, fqM_4 (by omega) (by omega)]; simp [bI, *]; done) | (rw [fqB, fqM_2 (by omega)]; simp [bI, *]; done) | (rw [fqB, fqM_6 (by omega)]; simp [bI, *]; done)) (by first | (exfalso; omega) | (refine memE ?_; rw [fqI, fqM_5 (by omega) (by omega) (by omega)]; simp [*]; done) | (refine memE ?_; rw [fqI, fqM_4 (by omega) (by omega)]; simp [*]; done) | (refine memE ?_; rw [fqI, fqM_2 (by omega)]; simp [*]; done) | (refine memE ?_; rw [fqI, fqM_6 (by omega)]; simp [*]; done))) (by decide) (by decide)
            · refine r_aload_n (d := mX6_isForm) (pc := 74) (i := 0) (v := 155) dX6_isForm_74 rfl rfl ?_
              refine r_iconst (d := mX6_isForm) (pc := 75) (n := 1) dX6_isForm_75 ?_
              refine r_cV1 (d := mX6_isForm) (pc := 76) (dj := mX6_readsNumber) (a := 155) (kd := 6) dX6_isForm_76 mlRX6_155 inX6_readsNumber selX6_readsNumber rfl ly155 (by decide) okX6_readsNumber (by decide) rfl (Nat.le_of_ble_eq_true rfl) (by decide) (by decide) (Fn_X6_readsNumber k (rnI I 0) P hM (by repeat (first | exact hT | apply rn_ok | apply nu_ok | apply pa_ok | assumption)) 1 (by decide) (by decide)) ?_
              refine r_ifb_eq (d := mX6_isForm) (pc := 79) (tgt := 97) dX6_isForm_79 (by decide) (fun h79 => ?_) (fun h79 => ?_)
              · refine r_iconst (d := mX6_isForm) (pc := 97) (n := 0) dX6_isForm_97 ?_
                refine r_istore_n (d := mX6_isForm) (pc := 98) (i := 2) (lv' := [(0, .inr (some 155)), (1, .inl w), (2, .inl 0)]) dX6_isForm_98 rfl (by decide) rfl rfl ?_
                refine r_goto (d := mX6_isForm) (pc := 99) (tgt := 112) dX6_isForm_99 (by decide) ?_
                refine r_iload_n (d := mX6_isForm) (pc := 112) (i := 2) (v := 0) dX6_isForm_112 rfl rfl ?_
                refine r_if_eq (d := mX6_isForm) (pc := 113) (tgt := 129) dX6_isForm_113 (by decide) (fun _ => ?_) (fun q => absurd q (by decide))
                refine r_iconst (d := mX6_isForm) (pc := 129) (n := 0) dX6_isForm_129 ?_
                exact r_zret (d := mX6_isForm) (pc := 130) dX6_isForm_130 rfl (Or.inl rfl) (rtI (by first | (exfalso; omega) | (rw [fqB, fqM_5 (by omega) (by omega) (by omega)]; simp [bI, *]; done) | (rw [fqB, fqM_4 (by omega) (by omega)]; simp [bI, *]; done) | (rw [fqB, fqM_2 (by omega)]; simp [bI, *]; done) | (rw [fqB, fqM_6 (by omega)]; simp [bI, *]; done)) (by first | (exfalso; omega) | (refine memE ?_; rw [fqI, fqM_5 (by omega) (by omega) (by omega)]; simp [*]; done) | (refine memE ?_; rw [fqI, fqM_4 (by omega) (by omega)]; simp [*]; done) | (refine memE ?_; rw [fqI, fqM_2 (by omega)]; simp [*]; done) | (refine memE ?_; rw [fqI, fqM_6 (by omega)]; simp [*]; done))) (by decide) (by decide)
              · refine r_goto (d := mX6_isForm) (pc := 82) (tgt := 93) dX6_isForm_82 (by decide) ?_
                refine r_iconst (d := mX6_isForm) (pc := 93) (n := 1) dX6_isForm_93 ?_
                refine r_goto (d := mX6_isForm) (pc := 94) (tgt := 98) dX6_isForm_94 (by decide) ?_
                refine r_istore_n (d := mX6_isForm) (pc := 98) (i := 2) (lv' := [(0, .inr (some 155)), (1, .inl w), (2, .inl 1)]) dX6_isForm_98 rfl (by decide) rfl rfl ?_
                refine r_goto (d := mX6_isForm) (pc := 99) (tgt := 112) dX6_isForm_99 (by decide) ?_
                refine r_iload_n (d := mX6_isForm) (pc := 112) (i := 2) (v := 1) dX6_isForm_112 rfl rfl ?_
                refine r_if_eq (d := mX6_isForm) (pc := 113) (tgt := 129) dX6_isForm_113 (by decide) (fun q => absurd q (by decide)) (fun _ => ?_)
                refine r_aload_n (d := mX6_isForm) (pc := 116) (i := 0) (v := 155) dX6_isForm_116 rfl rfl ?_
                refine r_bipush (d := mX6_isForm) (pc := 117) (n := 59) dX6_isForm_117 ?_
                refine r_cV1 (d := mX6_isForm) (pc := 119) (dj := mX6_passes) (a := 155) (kd := 6) dX6_isForm_119 mlRX6_149 inX6_passes selX6_passes rfl ly155 (by decide) okX6_passes (by decide) rfl (Nat.le_of_ble_eq_true rfl) (by decide) (by decide) (Fn_X6_passes (k + 1) (nuI (rnI I 0) 1) P hM (by repeat (first | exact hT | apply rn_ok | apply nu_ok | apply pa_ok | assumption)) 59) ?_
                refine r_ifb_eq (d := mX6_isForm) (pc := 122) (tgt := 129) dX6_isForm_122 (by decide) (fun h122 => ?_) (fun h122 => ?_)
                · refine r_iconst (d := mX6_isForm) (pc := 129) (n := 0) dX6_isForm_129 ?_
                  exact r_zret (d := mX6_isForm) (pc := 130) dX6_isForm_130 rfl (Or.inl rfl) (rtI (by first | (exfalso; omega) | (rw [fqB, fqM_5 (by omega) (by omega) (by omega)]; simp [bI, *]; done) | (rw [fqB, fqM_4 (by omega) (by omega)]; simp [bI, *]; done) | (rw [fqB, fqM_2 (by omega)]; simp [bI, *]; done) | (rw [fqB, fqM_6 (by omega)]; simp [bI, *]; done)) (by first | (exfalso; omega) | (refine memE ?_; rw [fqI, fqM_5 (by omega) (by omega) (by omega)]; simp [*]; done) | (refine memE ?_; rw [fqI, fqM_4 (by omega) (by omega)]; simp [*]; done) | (refine memE ?_; rw [fqI, fqM_2 (by omega)]; simp [*]; done) | (refine memE ?_; rw [fqI, fqM_6 (by omega)]; simp [*]; done))) (by decide) (by decide)
                · refine r_iconst (d := mX6_isForm) (pc := 125) (n := 1) dX6_isForm_125 ?_
                  refine r_goto (d := mX6_isForm) (pc := 126) (tgt := 130) dX6_isForm_126 (by decide) ?_
                  exact r_zret (d := mX6_isForm) (pc := 130) dX6_isForm_130 rfl (Or.inr rfl) (rtI (by first | (exfalso; omega) | (rw [fqB, fqM_5 (by omega) (by omega) (by omega)]; simp [bI, *]; done) | (rw [fqB, fqM_4 (by omega) (by omega)]; simp [bI, *]; done) | (rw [fqB, fqM_2 (by omega)]; simp [bI, *]; done) | (rw [fqB, fqM_6 (by omega)]; simp [bI, *]; done)) (by first | (exfalso; omega) | (refine memE ?_; rw [fqI, fqM_5 (by omega) (by omega) (by omega)]; simp [*]; done) | (refine memE ?_; rw [fqI, fqM_4 (by omega) (by omega)]; simp [*]; done) | (refine memE ?_; rw [fqI, fqM_2 (by omega)]; simp [*]; done) | (refine memE ?_; rw [fqI, fqM_6 (by omega)]; simp [*]; done))) (by decide) (by decide)
      · refine r_aload_n (d := mX6_isForm) (pc := 23) (i := 0) (v := 155) dX6_isForm_23 rfl rfl ?_
        refine r_iconst (d := mX6_isForm) (pc := 24) (n := 0) dX6_isForm_24 ?_
        refine r_cV1 (d := mX6_isForm) (pc := 25) (dj := mX6_readsName) (a := 155) (kd := 6) dX6_isForm_25 mlRX6_152 inX6_readsName selX6_readsName rfl ly155 (by decide) okX6_readsName (by decide) rfl (Nat.le_of_ble_eq_true rfl) (by decide) (by decide) (Fn_X6_readsName k I P hM (by repeat (first | exact hT | apply rn_ok | apply nu_ok | apply pa_ok | assumption)) 0 (by decide) (by decide)) ?_
        refine r_ifb_eq (d := mX6_isForm) (pc := 28) (tgt := 51) dX6_isForm_28 (by decide) (fun h28 => ?_) (fun h28 => ?_)
        · refine r_iconst (d := mX6_isForm) (pc := 51) (n := 0) dX6_isForm_51 ?_
          refine r_istore_n (d := mX6_isForm) (pc := 52) (i := 2) (lv' := [(0, .inr (some 155)), (1, .inl w), (2, .inl 0)]) dX6_isForm_52 rfl (by decide) rfl rfl ?_
          refine r_goto (d := mX6_isForm) (pc := 53) (tgt := 112) dX6_isForm_53 (by decide) ?_
          refine r_iload_n (d := mX6_isForm) (pc := 112) (i := 2) (v := 0) dX6_isForm_112 rfl rfl ?_
          refine r_if_eq (d := mX6_isForm) (pc := 113) (tgt := 129) dX6_isForm_113 (by decide) (fun _ => ?_) (fun q => absurd q (by decide))
          refine r_iconst (d := mX6_isForm) (pc := 129) (n := 0) dX6_isForm_129 ?_
          exact r_zret (d := mX6_isForm) (pc := 130) dX6_isForm_130 rfl (Or.inl rfl) (rtI (by first | (exfalso; omega) | (rw [fqB, fqM_5 (by omega) (by omega) (by omega)]; simp [bI, *]; done) | (rw [fqB, fqM_4 (by omega) (by omega)]; simp [bI, *]; done) | (rw [fqB, fqM_2 (by omega)]; simp [bI, *]; done) | (rw [fqB, fqM_6 (by omega)]; simp [bI, *]; done)) (by first | (exfalso; omega) | (refine memE ?_; rw [fqI, fqM_5 (by omega) (by omega) (by omega)]; simp [*]; done) | (refine memE ?_; rw [fqI, fqM_4 (by omega) (by omega)]; simp [*]; done) | (refine memE ?_; rw [fqI, fqM_2 (by omega)]; simp [*]; done) | (refine memE ?_; rw [fqI, fqM_6 (by omega)]; simp [*]; done))) (by decide) (by decide)
        · refine r_aload_n (d := mX6_isForm) (pc := 31) (i := 0) (v := 155) dX6_isForm_31 rfl rfl ?_
          refine r_iconst (d := mX6_isForm) (pc := 32) (n := 1) dX6_isForm_32 ?_
          refine r_cV1 (d := mX6_isForm) (pc := 33) (dj := mX6_readsName) (a := 155) (kd := 6) dX6_isForm_33 mlRX6_152 inX6_readsName selX6_readsName rfl ly155 (by decide) okX6_readsName (by decide) rfl (Nat.le_of_ble_eq_true rfl) (by decide) (by decide) (Fn_X6_readsName k (rnI I 0) P hM (by repeat (first | exact hT | apply rn_ok | apply nu_ok | apply pa_ok | assumption)) 1 (by decide) (by decide)) ?_
          refine r_ifb_eq (d := mX6_isForm) (pc := 36) (tgt := 51) dX6_isForm_36 (by decide) (fun h36 => ?_) (fun h36 => ?_)
          · refine r_iconst (d := mX6_isForm) (pc := 51) (n := 0) dX6_isForm_51 ?_
            refine r_istore_n (d := mX6_isForm) (pc := 52) (i := 2) (lv' := [(0, .inr (some 155)), (1, .inl w), (2, .inl 0)]) dX6_isForm_52 rfl (by decide) rfl rfl ?_
            refine r_goto (d := mX6_isForm) (pc := 53) (tgt := 112) dX6_isForm_53 (by decide) ?_
            refine r_iload_n (d := mX6_isForm) (pc := 112) (i := 2) (v := 0) dX6_isForm_112 rfl rfl ?_
            refine r_if_eq (d := mX6_isForm) (pc := 113) (tgt := 129) dX6_isForm_113 (by decide) (fun _ => ?_) (fun q => absurd q (by decide))
            refine r_iconst (d := mX6_isForm) (pc := 129) (n := 0) dX6_isForm_129 ?_
            exact r_zret (d := mX6_isForm) (pc := 130) dX6_isForm_130 rfl (Or.inl rfl) (rtI (by first | (exfalso; omega) | (rw [fqB, fqM_5 (by omega) (by omega) (by omega)]; simp [bI, *]; done) | (rw [fqB, fqM_4 (by omega) (by omega)]; simp [bI, *]; done) | (rw [fqB, fqM_2 (by omega)]; simp [bI, *]; done) | (rw [fqB, fqM_6 (by omega)]; simp [bI, *]; done)) (by first | (exfalso; omega) | (refine memE ?_; rw [fqI, fqM_5 (by omega) (by omega) (by omega)]; simp [*]; done) | (refine memE ?_; rw [fqI, fqM_4 (by omega) (by omega)]; simp [*]; done) | (refine memE ?_; rw [fqI, fqM_2 (by omega)]; simp [*]; done) | (refine memE ?_; rw [fqI, fqM_6 (by omega)]; simp [*]; done))) (by decide) (by decide)
          · refine r_aload_n (d := mX6_isForm) (pc := 39) (i := 0) (v := 155) dX6_isForm_39 rfl rfl ?_
            refine r_iconst (d := mX6_isForm) (pc := 40) (n := 2) dX6_isForm_40 ?_
            refine r_cV1 (d := mX6_isForm) (pc := 41) (dj := mX6_readsName) (a := 155) (kd := 6) dX6_isForm_41 mlRX6_152 inX6_readsName selX6_readsName rfl ly155 (by decide) okX6_readsName (by decide) rfl (Nat.le_of_ble_eq_true rfl) (by decide) (by decide) (Fn_X6_readsName k (rnI (rnI I 0) 1) P hM (by repeat (first | exact hT | apply rn_ok | apply nu_ok | apply pa_ok | assumption)) 2 (by decide) (by decide)) ?_
            refine r_ifb_eq (d := mX6_isForm) (pc := 44) (tgt := 51) dX6_isForm_44 (by decide) (fun h44 => ?_) (fun h44 => ?_)
            · refine r_iconst (d := mX6_isForm) (pc := 51) (n := 0) dX6_isForm_51 ?_
              refine r_istore_n (d := mX6_isForm) (pc := 52) (i := 2) (lv' := [(0, .inr (some 155)), (1, .inl w), (2, .inl 0)]) dX6_isForm_52 rfl (by decide) rfl rfl ?_
              refine r_goto (d := mX6_isForm) (pc := 53) (tgt := 112) dX6_isForm_53 (by decide) ?_
              refine r_iload_n (d := mX6_isForm) (pc := 112) (i := 2) (v := 0) dX6_isForm_112 rfl rfl ?_
              refine r_if_eq (d := mX6_isForm) (pc := 113) (tgt := 129) dX6_isForm_113 (by decide) (fun _ => ?_) (fun q => absurd q (by decide))
              refine r_iconst (d := mX6_isForm) (pc := 129) (n := 0) dX6_isForm_129 ?_
              exact r_zret (d := mX6_isForm) (pc := 130) dX6_isForm_130 rfl (Or.inl rfl) (rtI (by first | (exfalso; omega) | (rw [fqB, fqM_5 (by omega) (by omega) (by omega)]; simp [bI, *]; done) | (rw [fqB, fqM_4 (by omega) (by omega)]; simp [bI, *]; done) | (rw [fqB, fqM_2 (by omega)]; simp [bI, *]; done) | (rw [fqB, fqM_6 (by omega)]; simp [bI, *]; done)) (by first | (exfalso; omega) | (refine memE ?_; rw [fqI, fqM_5 (by omega) (by omega) (by omega)]; simp [*]; done) | (refine memE ?_; rw [fqI, fqM_4 (by omega) (by omega)]; simp [*]; done) | (refine memE ?_; rw [fqI, fqM_2 (by omega)]; simp [*]; done) | (refine memE ?_; rw [fqI, fqM_6 (by omega)]; simp [*]; done))) (by decide) (by decide)
            · refine r_iconst (d := mX6_isForm) (pc := 47) (n := 1) dX6_isForm_47 ?_
              refine r_goto (d := mX6_isForm) (pc := 48) (tgt := 52) dX6_isForm_48 (by decide) ?_
              refine r_istore_n (d := mX6_isForm) (pc := 52) (i := 2) (lv' := [(0, .inr (some 155)), (1, .inl w), (2, .inl 1)]) dX6_isForm_52 rfl (by decide) rfl rfl ?_
              refine r_goto (d := mX6_isForm) (pc := 53) (tgt := 112) dX6_isForm_53 (by decide) ?_
              refine r_iload_n (d := mX6_isForm) (pc := 112) (i := 2) (v := 1) dX6_isForm_112 rfl rfl ?_
              refine r_if_eq (d := mX6_isForm) (pc := 113) (tgt := 129) dX6_isForm_113 (by decide) (fun q => absurd q (by decide)) (fun _ => ?_)
              refine r_aload_n (d := mX6_isForm) (pc := 116) (i := 0) (v := 155) dX6_isForm_116 rfl rfl ?_
              refine r_bipush (d := mX6_isForm) (pc := 117) (n := 59) dX6_isForm_117 ?_
              refine r_cV1 (d := mX6_isForm) (pc := 119) (dj := mX6_passes) (a := 155) (kd := 6) dX6_isForm_119 mlRX6_149 inX6_passes selX6_passes rfl ly155 (by decide) okX6_passes (by decide) rfl (Nat.le_of_ble_eq_true rfl) (by decide) (by decide) (Fn_X6_passes (k + 1) (rnI (rnI (rnI I 0) 1) 2) P hM (by repeat (first | exact hT | apply rn_ok | apply nu_ok | apply pa_ok | assumption)) 59) ?_
              refine r_ifb_eq (d := mX6_isForm) (pc := 122) (tgt := 129) dX6_isForm_122 (by decide) (fun h122 => ?_) (fun h122 => ?_)
              · refine r_iconst (d := mX6_isForm) (pc := 129) (n := 0) dX6_isForm_129 ?_
                exact r_zret (d := mX6_isForm) (pc := 130) dX6_isForm_130 rfl (Or.inl rfl) (rtI (by first | (exfalso; omega) | (rw [fqB, fqM_5 (by omega) (by omega) (by omega)]; simp [bI, *]; done) | (rw [fqB, fqM_4 (by omega) (by omega)]; simp [bI, *]; done) | (rw [fqB, fqM_2 (by omega)]; simp [bI, *]; done) | (rw [fqB, fqM_6 (by omega)]; simp [bI, *]; done)) (by first | (exfalso; omega) | (refine memE ?_; rw [fqI, fqM_5 (by omega) (by omega) (by omega)]; simp [*]; done) | (refine memE ?_; rw [fqI, fqM_4 (by omega) (by omega)]; simp [*]; done) | (refine memE ?_; rw [fqI, fqM_2 (by omega)]; simp [*]; done) | (refine memE ?_; rw [fqI, fqM_6 (by omega)]; simp [*]; done))) (by decide) (by decide)
              · refine r_iconst (d := mX6_isForm) (pc := 125) (n := 1) dX6_isForm_125 ?_
                refine r_goto (d := mX6_isForm) (pc := 126) (tgt := 130) dX6_isForm_126 (by decide) ?_
                exact r_zret (d := mX6_isForm) (pc := 130) dX6_isForm_130 rfl (Or.inr rfl) (rtI (by first | (exfalso; omega) | (rw [fqB, fqM_5 (by omega) (by omega) (by omega)]; simp [bI, *]; done) | (rw [fqB, fqM_4 (by omega) (by omega)]; simp [bI, *]; done) | (rw [fqB, fqM_2 (by omega)]; simp [bI, *]; done) | (rw [fqB, fqM_6 (by omega)]; simp [bI, *]; done)) (by first | (exfalso; omega) | (refine memE ?_; rw [fqI, fqM_5 (by omega) (by omega) (by omega)]; simp [*]; done) | (refine memE ?_; rw [fqI, fqM_4 (by omega) (by omega)]; simp [*]; done) | (refine memE ?_; rw [fqI, fqM_2 (by omega)]; simp [*]; done) | (refine memE ?_; rw [fqI, fqM_6 (by omega)]; simp [*]; done))) (by decide) (by decide)
    · refine r_iconst (d := mX6_isForm) (pc := 12) (n := 1) dX6_isForm_12 ?_
      refine r_goto (d := mX6_isForm) (pc := 13) (tgt := 17) dX6_isForm_13 (by decide) ?_
      refine r_istore_n (d := mX6_isForm) (pc := 17) (i := 2) (lv' := [(0, .inr (some 155)), (1, .inl w), (2, .inl 1)]) dX6_isForm_17 rfl (by decide) rfl rfl ?_
      refine r_iload_n (d := mX6_isForm) (pc := 18) (i := 1) (v := w) dX6_isForm_18 rfl rfl ?_
      refine r_iconst (d := mX6_isForm) (pc := 19) (n := 3) dX6_isForm_19 ?_
      refine r_icmp_ge (d := mX6_isForm) (pc := 20) (tgt := 56) dX6_isForm_20 (by decide) (fun h20 => ?_) (fun h20 => ?_)
      · refine r_iload_n (d := mX6_isForm) (pc := 56) (i := 1) (v := w) dX6_isForm_56 rfl rfl ?_
        refine r_iconst (d := mX6_isForm) (pc := 57) (n := 5) dX6_isForm_57 ?_
        refine r_icmp_ge (d := mX6_isForm) (pc := 58) (tgt := 102) dX6_isForm_58 (by decide) (fun h58 => ?_) (fun h58 => ?_)
        · refine r_iload_n (d := mX6_isForm) (pc := 102) (i := 2) (v := 1) dX6_isForm_102 rfl rfl ?_
          refine r_if_ne (d := mX6_isForm) (pc := 103) (tgt := 112) dX6_isForm_103 (by decide) (fun _ => ?_) (fun q => absurd q (by decide))
          refine r_iload_n (d := mX6_isForm) (pc := 112) (i := 2) (v := 1) dX6_isForm_112 rfl rfl ?_
          refine r_if_eq (d := mX6_isForm) (pc := 113) (tgt := 129) dX6_isForm_113 (by decide) (fun q => absurd q (by decide)) (fun _ => ?_)
          refine r_aload_n (d := mX6_isForm) (pc := 116) (i := 0) (v := 155) dX6_isForm_116 rfl rfl ?_
          refine r_bipush (d := mX6_isForm) (pc := 117) (n := 59) dX6_isForm_117 ?_
          refine r_cV1 (d := mX6_isForm) (pc := 119) (dj := mX6_passes) (a := 155) (kd := 6) dX6_isForm_119 mlRX6_149 inX6_passes selX6_passes rfl ly155 (by decide) okX6_passes (by decide) rfl (Nat.le_of_ble_eq_true rfl) (by decide) (by decide) (Fn_X6_passes (k + 1) I P hM (by repeat (first | exact hT | apply rn_ok | apply nu_ok | apply pa_ok | assumption)) 59) ?_
          refine r_ifb_eq (d := mX6_isForm) (pc := 122) (tgt := 129) dX6_isForm_122 (by decide) (fun h122 => ?_) (fun h122 => ?_)
          · refine r_iconst (d := mX6_isForm) (pc := 129) (n := 0) dX6_isForm_129 ?_
            exact r_zret (d := mX6_isForm) (pc := 130) dX6_isForm_130 rfl (Or.inl rfl) (rtI (by first | (exfalso; omega) | (rw [fqB, fqM_5 (by omega) (by omega) (by omega)]; simp [bI, *]; done) | (rw [fqB, fqM_4 (by omega) (by omega)]; simp [bI, *]; done) | (rw [fqB, fqM_2 (by omega)]; simp [bI, *]; done) | (rw [fqB, fqM_6 (by omega)]; simp [bI, *]; done)) (by first | (exfalso; omega) | (refine memE ?_; rw [fqI, fqM_5 (by omega) (by omega) (by omega)]; simp [*]; done) | (refine memE ?_; rw [fqI, fqM_4 (by omega) (by omega)]; simp [*]; done) | (refine memE ?_; rw [fqI, fqM_2 (by omega)]; simp [*]; done) | (refine memE ?_; rw [fqI, fqM_6 (by omega)]; simp [*]; done))) (by decide) (by decide)
          · refine r_iconst (d := mX6_isForm) (pc := 125) (n := 1) dX6_isForm_125 ?_
            refine r_goto (d := mX6_isForm) (pc := 126) (tgt := 130) dX6_isForm_126 (by decide) ?_
            exact r_zret (d := mX6_isForm) (pc := 130) dX6_isForm_130 rfl (Or.inr rfl) (rtI (by first | (exfalso; omega) | (rw [fqB, fqM_5 (by omega) (by omega) (by omega)]; simp [bI, *]; done) | (rw [fqB, fqM_4 (by omega) (by omega)]; simp [bI, *]; done) | (rw [fqB, fqM_2 (by omega)]; simp [bI, *]; done) | (rw [fqB, fqM_6 (by omega)]; simp [bI, *]; done)) (by first | (exfalso; omega) | (refine memE ?_; rw [fqI, fqM_5 (by omega) (by omega) (by omega)]; simp [*]; done) | (refine memE ?_; rw [fqI, fqM_4 (by omega) (by omega)]; simp [*]; done) | (refine memE ?_; rw [fqI, fqM_2 (by omega)]; simp [*]; done) | (refine memE ?_; rw [fqI, fqM_6 (by omega)]; simp [*]; done))) (by decide) (by decide)
        · refine r_aload_n (d := mX6_isForm) (pc := 61) (i := 0) (v := 155) dX6_isForm_61 rfl rfl ?_
          refine r_iconst (d := mX6_isForm) (pc := 62) (n := 0) dX6_isForm_62 ?_
          refine r_cV1 (d := mX6_isForm) (pc := 63) (dj := mX6_readsName) (a := 155) (kd := 6) dX6_isForm_63 mlRX6_152 inX6_readsName selX6_readsName rfl ly155 (by decide) okX6_readsName (by decide) rfl (Nat.le_of_ble_eq_true rfl) (by decide) (by decide) (Fn_X6_readsName k I P hM (by repeat (first | exact hT | apply rn_ok | apply nu_ok | apply pa_ok | assumption)) 0 (by decide) (by decide)) ?_
          refine r_ifb_eq (d := mX6_isForm) (pc := 66) (tgt := 97) dX6_isForm_66 (by decide) (fun h66 => ?_) (fun h66 => ?_)
          · refine r_iconst (d := mX6_isForm) (pc := 97) (n := 0) dX6_isForm_97 ?_
            refine r_istore_n (d := mX6_isForm) (pc := 98) (i := 2) (lv' := [(0, .inr (some 155)), (1, .inl w), (2, .inl 0)]) dX6_isForm_98 rfl (by decide) rfl rfl ?_
            refine r_goto (d := mX6_isForm) (pc := 99) (tgt := 112) dX6_isForm_99 (by decide) ?_
            refine r_iload_n (d := mX6_isForm) (pc := 112) (i := 2) (v := 0) dX6_isForm_112 rfl rfl ?_
            refine r_if_eq (d := mX6_isForm) (pc := 113) (tgt := 129) dX6_isForm_113 (by decide) (fun _ => ?_) (fun q => absurd q (by decide))
            refine r_iconst (d := mX6_isForm) (pc := 129) (n := 0) dX6_isForm_129 ?_
            exact r_zret (d := mX6_isForm) (pc := 130) dX6_isForm_130 rfl (Or.inl rfl) (rtI (by first | (exfalso; omega) | (rw [fqB, fqM_5 (by omega) (by omega) (by omega)]; simp [bI, *]; done) | (rw [fqB, fqM_4 (by omega) (by omega)]; simp [bI, *]; done) | (rw [fqB, fqM_2 (by omega)]; simp [bI, *]; done) | (rw [fqB, fqM_6 (by omega)]; simp [bI, *]; done)) (by first | (exfalso; omega) | (refine memE ?_; rw [fqI, fqM_5 (by omega) (by omega) (by omega)]; simp [*]; done) | (refine memE ?_; rw [fqI, fqM_4 (by omega) (by omega)]; simp [*]; done) | (refine memE ?_; rw [fqI, fqM_2 (by omega)]; simp [*]; done) | (refine memE ?_; rw [fqI, fqM_6 (by omega)]; simp [*]; done))) (by decide) (by decide)
          · refine r_iload_n (d := mX6_isForm) (pc := 69) (i := 1) (v := w) dX6_isForm_69 rfl rfl ?_
            refine r_iconst (d := mX6_isForm) (pc := 70) (n := 3) dX6_isForm_70 ?_
            refine r_icmp_ne (d := mX6_isForm) (pc := 71) (tgt := 85) dX6_isForm_71 (by decide) (fun h71 => ?_) (fun h71 => ?_)
            · refine r_aload_n (d := mX6_isForm) (pc := 85) (i := 0) (v := 155) dX6_isForm_85 rfl rfl ?_
              refine r_iconst (d := mX6_isForm) (pc := 86) (n := 1) dX6_isForm_86 ?_
              refine r_cV1 (d := mX6_isForm) (pc := 87) (dj := mX6_readsName) (a := 155) (kd := 6) dX6_isForm_87 mlRX6_152 inX6_readsName selX6_readsName rfl ly155 (by decide) okX6_readsName (by decide) rfl (Nat.le_of_ble_eq_true rfl) (by decide) (by decide) (Fn_X6_readsName k (rnI I 0) P hM (by repeat (first | exact hT | apply rn_ok | apply nu_ok | apply pa_ok | assumption)) 1 (by decide) (by decide)) ?_
              refine r_ifb_eq (d := mX6_isForm) (pc := 90) (tgt := 97) dX6_isForm_90 (by decide) (fun h90 => ?_) (fun h90 => ?_)
              · refine r_iconst (d := mX6_isForm) (pc := 97) (n := 0) dX6_isForm_97 ?_
                refine r_istore_n (d := mX6_isForm) (pc := 98) (i := 2) (lv' := [(0, .inr (some 155)), (1, .inl w), (2, .inl 0)]) dX6_isForm_98 rfl (by decide) rfl rfl ?_
                refine r_goto (d := mX6_isForm) (pc := 99) (tgt := 112) dX6_isForm_99 (by decide) ?_
                refine r_iload_n (d := mX6_isForm) (pc := 112) (i := 2) (v := 0) dX6_isForm_112 rfl rfl ?_
                refine r_if_eq (d := mX6_isForm) (pc := 113) (tgt := 129) dX6_isForm_113 (by decide) (fun _ => ?_) (fun q => absurd q (by decide))
                refine r_iconst (d := mX6_isForm) (pc := 129) (n := 0) dX6_isForm_129 ?_
                exact r_zret (d := mX6_isForm) (pc := 130) dX6_isForm_130 rfl (Or.inl rfl) (rtI (by first | (exfalso; omega) | (rw [fqB, fqM_5 (by omega) (by omega) (by omega)]; simp [bI, *]; done) | (rw [fqB, fqM_4 (by omega) (by omega)]; simp [bI, *]; done) | (rw [fqB, fqM_2 (by omega)]; simp [bI, *]; done) | (rw [fqB, fqM_6 (by omega)]; simp [bI, *]; done)) (by first | (exfalso; omega) | (refine memE ?_; rw [fqI, fqM_5 (by omega) (by omega) (by omega)]; simp [*]; done) | (refine memE ?_; rw [fqI, fqM_4 (by omega) (by omega)]; simp [*]; done) | (refine memE ?_; rw [fqI, fqM_2 (by omega)]; simp [*]; done) | (refine memE ?_; rw [fqI, fqM_6 (by omega)]; simp [*]; done))) (by decide) (by decide)
              · refine r_iconst (d := mX6_isForm) (pc := 93) (n := 1) dX6_isForm_93 ?_
                refine r_goto (d := mX6_isForm) (pc := 94) (tgt := 98) dX6_isForm_94 (by decide) ?_
                refine r_istore_n (d := mX6_isForm) (pc := 98) (i := 2) (lv' := [(0, .inr (some 155)), (1, .inl w), (2, .inl 1)]) dX6_isForm_98 rfl (by decide) rfl rfl ?_
                refine r_goto (d := mX6_isForm) (pc := 99) (tgt := 112) dX6_isForm_99 (by decide) ?_
                refine r_iload_n (d := mX6_isForm) (pc := 112) (i := 2) (v := 1) dX6_isForm_112 rfl rfl ?_
                refine r_if_eq (d := mX6_isForm) (pc := 113) (tgt := 129) dX6_isForm_113 (by decide) (fun q => absurd q (by decide)) (fun _ => ?_)
                refine r_aload_n (d := mX6_isForm) (pc := 116) (i := 0) (v := 155) dX6_isForm_116 rfl rfl ?_
                refine r_bipush (d := mX6_isForm) (pc := 117) (n := 59) dX6_isForm_117 ?_
                refine r_cV1 (d := mX6_isForm) (pc := 119) (dj := mX6_passes) (a := 155) (kd := 6) dX6_isForm_119 mlRX6_149 inX6_passes selX6_passes rfl ly155 (by decide) okX6_passes (by decide) rfl (Nat.le_of_ble_eq_true rfl) (by decide) (by decide) (Fn_X6_passes (k + 1) (rnI (rnI I 0) 1) P hM (by repeat (first | exact hT | apply rn_ok | apply nu_ok | apply pa_ok | assumption)) 59) ?_
                refine r_ifb_eq (d := mX6_isForm) (pc := 122) (tgt := 129) dX6_isForm_122 (by decide) (fun h122 => ?_) (fun h122 => ?_)
                · refine r_iconst (d := mX6_isForm) (pc := 129) (n := 0) dX6_isForm_129 ?_
                  exact r_zret (d := mX6_isForm) (pc := 130) dX6_isForm_130 rfl (Or.inl rfl) (rtI (by first | (exfalso; omega) | (rw [fqB, fqM_5 (by omega) (by omega) (by omega)]; simp [bI, *]; done) | (rw [fqB, fqM_4 (by omega) (by omega)]; simp [bI, *]; done) | (rw [fqB, fqM_2 (by omega)]; simp [bI, *]; done) | (rw [fqB, fqM_6 (by omega)]; simp [bI, *]; done)) (by first | (exfalso; omega) | (refine memE ?_; rw [fqI, fqM_5 (by omega) (by omega) (by omega)]; simp [*]; done) | (refine memE ?_; rw [fqI, fqM_4 (by omega) (by omega)]; simp [*]; done) | (refine memE ?_; rw [fqI, fqM_2 (by omega)]; simp [*]; done) | (refine memE ?_; rw [fqI, fqM_6 (by omega)]; simp [*]; done))) (by decide) (by decide)
                · refine r_iconst (d := mX6_isForm) (pc := 125) (n := 1) dX6_isForm_125 ?_
                  refine r_goto (d := mX6_isForm) (pc := 126) (tgt := 130) dX6_isForm_126 (by decide) ?_
                  exact r_zret (d := mX6_isForm) (pc := 130) dX6_isForm_130 rfl (Or.inr rfl) (rtI (by first | (exfalso; omega) | (rw [fqB, fqM_5 (by omega) (by omega) (by omega)]; simp [bI, *]; done) | (rw [fqB, fqM_4 (by omega) (by omega)]; simp [bI, *]; done) | (rw [fqB, fqM_2 (by omega)]; simp [bI, *]; done) | (rw [fqB, fqM_6 (by omega)]; simp [bI, *]; done)) (by first | (exfalso; omega) | (refine memE ?_; rw [fqI, fqM_5 (by omega) (by omega) (by omega)]; simp [*]; done) | (refine memE ?_; rw [fqI, fqM_4 (by omega) (by omega)]; simp [*]; done) | (refine memE ?_; rw [fqI, fqM_2 (by omega)]; simp [*]; done) | (refine memE ?_; rw [fqI, fqM_6 (by omega)]; simp [*]; done))) (by decide) (by decide)
            · refine r_aload_n (d := mX6_isForm) (pc := 74) (i := 0) (v := 155) dX6_isForm_74 rfl rfl ?_
              refine r_iconst (d := mX6_isForm) (pc := 75) (n := 1) dX6_isForm_75 ?_
              refine r_cV1 (d := mX6_isForm) (pc := 76) (dj := mX6_readsNumber) (a := 155) (kd := 6) dX6_isForm_76 mlRX6_155 inX6_readsNumber selX6_readsNumber rfl ly155 (by decide) okX6_readsNumber (by decide) rfl (Nat.le_of_ble_eq_true rfl) (by decide) (by decide) (Fn_X6_readsNumber k (rnI I 0) P hM (by repeat (first | exact hT | apply rn_ok | apply nu_ok | apply pa_ok | assumption)) 1 (by decide) (by decide)) ?_
              refine r_ifb_eq (d := mX6_isForm) (pc := 79) (tgt := 97) dX6_isForm_79 (by decide) (fun h79 => ?_) (fun h79 => ?_)
              · refine r_iconst (d := mX6_isForm) (pc := 97) (n := 0) dX6_isForm_97 ?_
                refine r_istore_n (d := mX6_isForm) (pc := 98) (i := 2) (lv' := [(0, .inr (some 155)), (1, .inl w), (2, .inl 0)]) dX6_isForm_98 rfl (by decide) rfl rfl ?_
                refine r_goto (d := mX6_isForm) (pc := 99) (tgt := 112) dX6_isForm_99 (by decide) ?_
                refine r_iload_n (d := mX6_isForm) (pc := 112) (i := 2) (v := 0) dX6_isForm_112 rfl rfl ?_
                refine r_if_eq (d := mX6_isForm) (pc := 113) (tgt := 129) dX6_isForm_113 (by decide) (fun _ => ?_) (fun q => absurd q (by decide))
                refine r_iconst (d := mX6_isForm) (pc := 129) (n := 0) dX6_isForm_129 ?_
                exact r_zret (d := mX6_isForm) (pc := 130) dX6_isForm_130 rfl (Or.inl rfl) (rtI (by first | (exfalso; omega) | (rw [fqB, fqM_5 (by omega) (by omega) (by omega)]; simp [bI, *]; done) | (rw [fqB, fqM_4 (by omega) (by omega)]; simp [bI, *]; done) | (rw [fqB, fqM_2 (by omega)]; simp [bI, *]; done) | (rw [fqB, fqM_6 (by omega)]; simp [bI, *]; done)) (by first | (exfalso; omega) | (refine memE ?_; rw [fqI, fqM_5 (by omega) (by omega) (by omega)]; simp [*]; done) | (refine memE ?_; rw [fqI, fqM_4 (by omega) (by omega)]; simp [*]; done) | (refine memE ?_; rw [fqI, fqM_2 (by omega)]; simp [*]; done) | (refine memE ?_; rw [fqI, fqM_6 (by omega)]; simp [*]; done))) (by decide) (by decide)
              · refine r_goto (d := mX6_isForm) (pc := 82) (tgt := 93) dX6_isForm_82 (by decide) ?_
                refine r_iconst (d := mX6_isForm) (pc := 93) (n := 1) dX6_isForm_93 ?_
                refine r_goto (d := mX6_isForm) (pc := 94) (tgt := 98) dX6_isForm_94 (by decide) ?_
                refine r_istore_n (d := mX6_isForm) (pc := 98) (i := 2) (lv' := [(0, .inr (some 155)), (1, .inl w), (2, .inl 1)]) dX6_isForm_98 rfl (by decide) rfl rfl ?_
                refine r_goto (d := mX6_isForm) (pc := 99) (tgt := 112) dX6_isForm_99 (by decide) ?_
                refine r_iload_n (d := mX6_isForm) (pc := 112) (i := 2) (v := 1) dX6_isForm_112 rfl rfl ?_
                refine r_if_eq (d := mX6_isForm) (pc := 113) (tgt := 129) dX6_isForm_113 (by decide) (fun q => absurd q (by decide)) (fun _ => ?_)
                refine r_aload_n (d := mX6_isForm) (pc := 116) (i := 0) (v := 155) dX6_isForm_116 rfl rfl ?_
                refine r_bipush (d := mX6_isForm) (pc := 117) (n := 59) dX6_isForm_117 ?_
                refine r_cV1 (d := mX6_isForm) (pc := 119) (dj := mX6_passes) (a := 155) (kd := 6) dX6_isForm_119 mlRX6_149 inX6_passes selX6_passes rfl ly155 (by decide) okX6_passes (by decide) rfl (Nat.le_of_ble_eq_true rfl) (by decide) (by decide) (Fn_X6_passes (k + 1) (nuI (rnI I 0) 1) P hM (by repeat (first | exact hT | apply rn_ok | apply nu_ok | apply pa_ok | assumption)) 59) ?_
                refine r_ifb_eq (d := mX6_isForm) (pc := 122) (tgt := 129) dX6_isForm_122 (by decide) (fun h122 => ?_) (fun h122 => ?_)
                · refine r_iconst (d := mX6_isForm) (pc := 129) (n := 0) dX6_isForm_129 ?_
                  exact r_zret (d := mX6_isForm) (pc := 130) dX6_isForm_130 rfl (Or.inl rfl) (rtI (by first | (exfalso; omega) | (rw [fqB, fqM_5 (by omega) (by omega) (by omega)]; simp [bI, *]; done) | (rw [fqB, fqM_4 (by omega) (by omega)]; simp [bI, *]; done) | (rw [fqB, fqM_2 (by omega)]; simp [bI, *]; done) | (rw [fqB, fqM_6 (by omega)]; simp [bI, *]; done)) (by first | (exfalso; omega) | (refine memE ?_; rw [fqI, fqM_5 (by omega) (by omega) (by omega)]; simp [*]; done) | (refine memE ?_; rw [fqI, fqM_4 (by omega) (by omega)]; simp [*]; done) | (refine memE ?_; rw [fqI, fqM_2 (by omega)]; simp [*]; done) | (refine memE ?_; rw [fqI, fqM_6 (by omega)]; simp [*]; done))) (by decide) (by decide)
                · refine r_iconst (d := mX6_isForm) (pc := 125) (n := 1) dX6_isForm_125 ?_
                  refine r_goto (d := mX6_isForm) (pc := 126) (tgt := 130) dX6_isForm_126 (by decide) ?_
                  exact r_zret (d := mX6_isForm) (pc := 130) dX6_isForm_130 rfl (Or.inr rfl) (rtI (by first | (exfalso; omega) | (rw [fqB, fqM_5 (by omega) (by omega) (by omega)]; simp [bI, *]; done) | (rw [fqB, fqM_4 (by omega) (by omega)]; simp [bI, *]; done) | (rw [fqB, fqM_2 (by omega)]; simp [bI, *]; done) | (rw [fqB, fqM_6 (by omega)]; simp [bI, *]; done)) (by first | (exfalso; omega) | (refine memE ?_; rw [fqI, fqM_5 (by omega) (by omega) (by omega)]; simp [*]; done) | (refine memE ?_; rw [fqI, fqM_4 (by omega) (by omega)]; simp [*]; done) | (refine memE ?_; rw [fqI, fqM_2 (by omega)]; simp [*]; done) | (refine memE ?_; rw [fqI, fqM_6 (by omega)]; simp [*]; done))) (by decide) (by decide)
      · refine r_aload_n (d := mX6_isForm) (pc := 23) (i := 0) (v := 155) dX6_isForm_23 rfl rfl ?_
        refine r_iconst (d := mX6_isForm) (pc := 24) (n := 0) dX6_isForm_24 ?_
        refine r_cV1 (d := mX6_isForm) (pc := 25) (dj := mX6_readsName) (a := 155) (kd := 6) dX6_isForm_25 mlRX6_152 inX6_readsName selX6_readsName rfl ly155 (by decide) okX6_readsName (by decide) rfl (Nat.le_of_ble_eq_true rfl) (by decide) (by decide) (Fn_X6_readsName k I P hM (by repeat (first | exact hT | apply rn_ok | apply nu_ok | apply pa_ok | assumption)) 0 (by decide) (by decide)) ?_
        refine r_ifb_eq (d := mX6_isForm) (pc := 28) (tgt := 51) dX6_isForm_28 (by decide) (fun h28 => ?_) (fun h28 => ?_)
        · refine r_iconst (d := mX6_isForm) (pc := 51) (n := 0) dX6_isForm_51 ?_
          refine r_istore_n (d := mX6_isForm) (pc := 52) (i := 2) (lv' := [(0, .inr (some 155)), (1, .inl w), (2, .inl 0)]) dX6_isForm_52 rfl (by decide) rfl rfl ?_
          refine r_goto (d := mX6_isForm) (pc := 53) (tgt := 112) dX6_isForm_53 (by decide) ?_
          refine r_iload_n (d := mX6_isForm) (pc := 112) (i := 2) (v := 0) dX6_isForm_112 rfl rfl ?_
          refine r_if_eq (d := mX6_isForm) (pc := 113) (tgt := 129) dX6_isForm_113 (by decide) (fun _ => ?_) (fun q => absurd q (by decide))
          refine r_iconst (d := mX6_isForm) (pc := 129) (n := 0) dX6_isForm_129 ?_
          exact r_zret (d := mX6_isForm) (pc := 130) dX6_isForm_130 rfl (Or.inl rfl) (rtI (by first | (exfalso; omega) | (rw [fqB, fqM_5 (by omega) (by omega) (by omega)]; simp [bI, *]; done) | (rw [fqB, fqM_4 (by omega) (by omega)]; simp [bI, *]; done) | (rw [fqB, fqM_2 (by omega)]; simp [bI, *]; done) | (rw [fqB, fqM_6 (by omega)]; simp [bI, *]; done)) (by first | (exfalso; omega) | (refine memE ?_; rw [fqI, fqM_5 (by omega) (by omega) (by omega)]; simp [*]; done) | (refine memE ?_; rw [fqI, fqM_4 (by omega) (by omega)]; simp [*]; done) | (refine memE ?_; rw [fqI, fqM_2 (by omega)]; simp [*]; done) | (refine memE ?_; rw [fqI, fqM_6 (by omega)]; simp [*]; done))) (by decide) (by decide)
        · refine r_aload_n (d := mX6_isForm) (pc := 31) (i := 0) (v := 155) dX6_isForm_31 rfl rfl ?_
          refine r_iconst (d := mX6_isForm) (pc := 32) (n := 1) dX6_isForm_32 ?_
          refine r_cV1 (d := mX6_isForm) (pc := 33) (dj := mX6_readsName) (a := 155) (kd := 6) dX6_isForm_33 mlRX6_152 inX6_readsName selX6_readsName rfl ly155 (by decide) okX6_readsName (by decide) rfl (Nat.le_of_ble_eq_true rfl) (by decide) (by decide) (Fn_X6_readsName k (rnI I 0) P hM (by repeat (first | exact hT | apply rn_ok | apply nu_ok | apply pa_ok | assumption)) 1 (by decide) (by decide)) ?_
          refine r_ifb_eq (d := mX6_isForm) (pc := 36) (tgt := 51) dX6_isForm_36 (by decide) (fun h36 => ?_) (fun h36 => ?_)
          · refine r_iconst (d := mX6_isForm) (pc := 51) (n := 0) dX6_isForm_51 ?_
            refine r_istore_n (d := mX6_isForm) (pc := 52) (i := 2) (lv' := [(0, .inr (some 155)), (1, .inl w), (2, .inl 0)]) dX6_isForm_52 rfl (by decide) rfl rfl ?_
            refine r_goto (d := mX6_isForm) (pc := 53) (tgt := 112) dX6_isForm_53 (by decide) ?_
            refine r_iload_n (d := mX6_isForm) (pc := 112) (i := 2) (v := 0) dX6_isForm_112 rfl rfl ?_
            refine r_if_eq (d := mX6_isForm) (pc := 113) (tgt := 129) dX6_isForm_113 (by decide) (fun _ => ?_) (fun q => absurd q (by decide))
            refine r_iconst (d := mX6_isForm) (pc := 129) (n := 0) dX6_isForm_129 ?_
            exact r_zret (d := mX6_isForm) (pc := 130) dX6_isForm_130 rfl (Or.inl rfl) (rtI (by first | (exfalso; omega) | (rw [fqB, fqM_5 (by omega) (by omega) (by omega)]; simp [bI, *]; done) | (rw [fqB, fqM_4 (by omega) (by omega)]; simp [bI, *]; done) | (rw [fqB, fqM_2 (by omega)]; simp [bI, *]; done) | (rw [fqB, fqM_6 (by omega)]; simp [bI, *]; done)) (by first | (exfalso; omega) | (refine memE ?_; rw [fqI, fqM_5 (by omega) (by omega) (by omega)]; simp [*]; done) | (refine memE ?_; rw [fqI, fqM_4 (by omega) (by omega)]; simp [*]; done) | (refine memE ?_; rw [fqI, fqM_2 (by omega)]; simp [*]; done) | (refine memE ?_; rw [fqI, fqM_6 (by omega)]; simp [*]; done))) (by decide) (by decide)
          · refine r_aload_n (d := mX6_isForm) (pc := 39) (i := 0) (v := 155) dX6_isForm_39 rfl rfl ?_
            refine r_iconst (d := mX6_isForm) (pc := 40) (n := 2) dX6_isForm_40 ?_
            refine r_cV1 (d := mX6_isForm) (pc := 41) (dj := mX6_readsName) (a := 155) (kd := 6) dX6_isForm_41 mlRX6_152 inX6_readsName selX6_readsName rfl ly155 (by decide) okX6_readsName (by decide) rfl (Nat.le_of_ble_eq_true rfl) (by decide) (by decide) (Fn_X6_readsName k (rnI (rnI I 0) 1) P hM (by repeat (first | exact hT | apply rn_ok | apply nu_ok | apply pa_ok | assumption)) 2 (by decide) (by decide)) ?_
            refine r_ifb_eq (d := mX6_isForm) (pc := 44) (tgt := 51) dX6_isForm_44 (by decide) (fun h44 => ?_) (fun h44 => ?_)
            · refine r_iconst (d := mX6_isForm) (pc := 51) (n := 0) dX6_isForm_51 ?_
              refine r_istore_n (d := mX6_isForm) (pc := 52) (i := 2) (lv' := [(0, .inr (some 155)), (1, .inl w), (2, .inl 0)]) dX6_isForm_52 rfl (by decide) rfl rfl ?_
              refine r_goto (d := mX6_isForm) (pc := 53) (tgt := 112) dX6_isForm_53 (by decide) ?_
              refine r_iload_n (d := mX6_isForm) (pc := 112) (i := 2) (v := 0) dX6_isForm_112 rfl rfl ?_
              refine r_if_eq (d := mX6_isForm) (pc := 113) (tgt := 129) dX6_isForm_113 (by decide) (fun _ => ?_) (fun q => absurd q (by decide))
              refine r_iconst (d := mX6_isForm) (pc := 129) (n := 0) dX6_isForm_129 ?_
              exact r_zret (d := mX6_isForm) (pc := 130) dX6_isForm_130 rfl (Or.inl rfl) (rtI (by first | (exfalso; omega) | (rw [fqB, fqM_5 (by omega) (by omega) (by omega)]; simp [bI, *]; done) | (rw [fqB, fqM_4 (by omega) (by omega)]; simp [bI, *]; done) | (rw [fqB, fqM_2 (by omega)]; simp [bI, *]; done) | (rw [fqB, fqM_6 (by omega)]; simp [bI, *]; done)) (by first | (exfalso; omega) | (refine memE ?_; rw [fqI, fqM_5 (by omega) (by omega) (by omega)]; simp [*]; done) | (refine memE ?_; rw [fqI, fqM_4 (by omega) (by omega)]; simp [*]; done) | (refine memE ?_; rw [fqI, fqM_2 (by omega)]; simp [*]; done) | (refine memE ?_; rw [fqI, fqM_6 (by omega)]; simp [*]; done))) (by decide) (by decide)
            · refine r_iconst (d := mX6_isForm) (pc := 47) (n := 1) dX6_isForm_47 ?_
              refine r_goto (d := mX6_isForm) (pc := 48) (tgt := 52) dX6_isForm_48 (by decide) ?_
              refine r_istore_n (d := mX6_isForm) (pc := 52) (i := 2) (lv' := [(0, .inr (some 155)), (1, .inl w), (2, .inl 1)]) dX6_isForm_52 rfl (by decide) rfl rfl ?_
              refine r_goto (d := mX6_isForm) (pc := 53) (tgt := 112) dX6_isForm_53 (by decide) ?_
              refine r_iload_n (d := mX6_isForm) (pc := 112) (i := 2) (v := 1) dX6_isForm_112 rfl rfl ?_
              refine r_if_eq (d := mX6_isForm) (pc := 113) (tgt := 129) dX6_isForm_113 (by decide) (fun q => absurd q (by decide)) (fun _ => ?_)
              refine r_aload_n (d := mX6_isForm) (pc := 116) (i := 0) (v := 155) dX6_isForm_116 rfl rfl ?_
              refine r_bipush (d := mX6_isForm) (pc := 117) (n := 59) dX6_isForm_117 ?_
              refine r_cV1 (d := mX6_isForm) (pc := 119) (dj := mX6_passes) (a := 155) (kd := 6) dX6_isForm_119 mlRX6_149 inX6_passes selX6_passes rfl ly155 (by decide) okX6_passes (by decide) rfl (Nat.le_of_ble_eq_true rfl) (by decide) (by decide) (Fn_X6_passes (k + 1) (rnI (rnI (rnI I 0) 1) 2) P hM (by repeat (first | exact hT | apply rn_ok | apply nu_ok | apply pa_ok | assumption)) 59) ?_
              refine r_ifb_eq (d := mX6_isForm) (pc := 122) (tgt := 129) dX6_isForm_122 (by decide) (fun h122 => ?_) (fun h122 => ?_)
              · refine r_iconst (d := mX6_isForm) (pc := 129) (n := 0) dX6_isForm_129 ?_
                exact r_zret (d := mX6_isForm) (pc := 130) dX6_isForm_130 rfl (Or.inl rfl) (rtI (by first | (exfalso; omega) | (rw [fqB, fqM_5 (by omega) (by omega) (by omega)]; simp [bI, *]; done) | (rw [fqB, fqM_4 (by omega) (by omega)]; simp [bI, *]; done) | (rw [fqB, fqM_2 (by omega)]; simp [bI, *]; done) | (rw [fqB, fqM_6 (by omega)]; simp [bI, *]; done)) (by first | (exfalso; omega) | (refine memE ?_; rw [fqI, fqM_5 (by omega) (by omega) (by omega)]; simp [*]; done) | (refine memE ?_; rw [fqI, fqM_4 (by omega) (by omega)]; simp [*]; done) | (refine memE ?_; rw [fqI, fqM_2 (by omega)]; simp [*]; done) | (refine memE ?_; rw [fqI, fqM_6 (by omega)]; simp [*]; done))) (by decide) (by decide)
              · refine r_iconst (d := mX6_isForm) (pc := 125) (n := 1) dX6_isForm_125 ?_
                refine r_goto (d := mX6_isForm) (pc := 126) (tgt := 130) dX6_isForm_126 (by decide) ?_
                exact r_zret (d := mX6_isForm) (pc := 130) dX6_isForm_130 rfl (Or.inr rfl) (rtI (by first | (exfalso; omega) | (rw [fqB, fqM_5 (by omega) (by omega) (by omega)]; simp [bI, *]; done) | (rw [fqB, fqM_4 (by omega) (by omega)]; simp [bI, *]; done) | (rw [fqB, fqM_2 (by omega)]; simp [bI, *]; done) | (rw [fqB, fqM_6 (by omega)]; simp [bI, *]; done)) (by first | (exfalso; omega) | (refine memE ?_; rw [fqI, fqM_5 (by omega) (by omega) (by omega)]; simp [*]; done) | (refine memE ?_; rw [fqI, fqM_4 (by omega) (by omega)]; simp [*]; done) | (refine memE ?_; rw [fqI, fqM_2 (by omega)]; simp [*]; done) | (refine memE ?_; rw [fqI, fqM_6 (by omega)]; simp [*]; done))) (by decide) (by decide)
