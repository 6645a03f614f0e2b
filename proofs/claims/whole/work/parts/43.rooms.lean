/-! ===== the program's own class: its rooms ===== -/
theorem ly0 : lay0[0]? = some (5, 8) := by decide +kernel
theorem ly51 : lay0[51]? = some (13, 4) := by decide +kernel
section ROWS5
variable {k : Nat} {d dj : mD} {S : Option (Nat × (Nat → Int))} {u : Nat × Nat} {Q : Option mV → mM → Prop} {pc : Nat} {lv : List (Nat × mV)} {st : List mV} {M M' : mM} {v : Option mV}
theorem r_putRs {a kd j idx : Nat} {r : Option Nat} (M' : mM) (hd : decode d.2.1 pc = .ok (.putfield idx, 3)) (hw : Cond.fieldLink d.1.cls idx (mTx kd j).1 (mTx kd j).2.1 (mTx kd j).2.2.1 ∈ mTb) (ha : M.1[a]? = some (kd, mNx kd)) (hk : kd < 7) (hj : j < mNx kd) (hr : mRef kd j = true) (hf : (mTx kd j).2.2.2 = false) (hM : (M.1, M.2.1, mUp M.2.2 a j r) = M')
    (kk : WP k d S u Q (pc + 3) lv st M') : WP k d S u Q pc lv (.inr r :: .inr (some a) :: st) M := r_putR hd hw ha hk hj hr hf (by rw [hM]; exact kk)
theorem r_aast13s {a n x : Nat} {i : Int} (M' : mM) (hd : decode d.2.1 pc = .ok (.aastore, 1)) (ha : M.1[a]? = some (13, n)) (h0 : 0 ≤ i) (h1 : i < (n : Int)) (hxc : M.1[x]? = some (2, mNx 2)) (hM : (M.1, M.2.1, mUp M.2.2 a i (some x)) = M')
    (kk : WP k d S u Q (pc + 1) lv st M') : WP k d S u Q pc lv (.inr (some x) :: .inl i :: .inr (some a) :: st) M := r_aast13 hd ha h0 h1 hxc (by rw [hM]; exact kk)
end ROWS5
theorem memQ {I I' : mIt} {P P' : mPt} (h : I = I') (g : P = P') : ((lay0, I, P) : mM) = (lay0, I', P') := by rw [h, g]
def isCn (P : mPt) (r t : Nat) (h : Int → Nat) : Prop := (P 0 0 = some r ∧ P 0 1 = some t ∧ P 0 2 = some 51 ∧ P 0 4 = some 52) ∧ (∀ i : Int, 0 ≤ i → i < 4 → P 51 i = some (h i)) ∧ isRm P r ∧ isRm P t ∧ (∀ i : Int, 0 ≤ i → i < 4 → isRm P (h i)) ∧ (r + 25 ≤ t ∨ t + 25 ≤ r)
set_option maxRecDepth 20000 in
set_option maxHeartbeats 4000000 in
theorem Fn_X5_spareRoom (k : Nat) (I : mIt) (P : mPt) (r t : Nat) (h : Int → Nat) (hC : isCn P r t h) : WP (k + 2) mX5_spareRoom none (0, 0) (Rt (some (.inr (some t))) (lay0, rbI I t r, P)) 0 [(0, .inr (some 0))] [] (lay0, I, P) := by
  refine r_aload_n (d := mX5_spareRoom) (pc := 0) (i := 0) (v := 0) dX5_spareRoom_0 rfl rfl ?_
  refine r_getRs (d := mX5_spareRoom) (pc := 1) (a := 0) (kd := 5) (j := 1) (x := t) dX5_spareRoom_1 flRX5_16 ly0 (by decide) (by decide) rfl hC.1.2.1 ?_
  refine r_aload_n (d := mX5_spareRoom) (pc := 4) (i := 0) (v := 0) dX5_spareRoom_4 rfl rfl ?_
  refine r_getRs (d := mX5_spareRoom) (pc := 5) (a := 0) (kd := 5) (j := 0) (x := r) dX5_spareRoom_5 flRX5_10 ly0 (by decide) (by decide) rfl hC.1.1 ?_
  refine r_cV1 (d := mX5_spareRoom) (pc := 8) (dj := mX2_become) (a := t) (kd := 2) dX5_spareRoom_8 mlRX5_124 inX2_become selX2_become rfl hC.2.2.2.1.1.1 (by decide) okX2_become (by decide) rfl (Nat.le_of_ble_eq_true rfl) (by decide) (by decide) (Fn_X2_become k I P t hC.2.2.2.1 r hC.2.2.1 hC.2.2.2.2.2.symm) ?_
  refine r_aload_n (d := mX5_spareRoom) (pc := 11) (i := 0) (v := 0) dX5_spareRoom_11 rfl rfl ?_
  refine r_getRs (d := mX5_spareRoom) (pc := 12) (a := 0) (kd := 5) (j := 1) (x := t) dX5_spareRoom_12 flRX5_16 ly0 (by decide) (by decide) rfl hC.1.2.1 ?_
  exact r_aret (d := mX5_spareRoom) (pc := 15) dX5_spareRoom_15 rfl (rtR (by rfl) (by rfl)) (by decide) (by decide)
