/-! ===== constructors ===== -/
theorem lyTL {n a : Nat} {q : Nat × Nat} (h : lay0[a]? = some q) (ha : a < n) : (lay0.take n)[a]? = some q := by rw [List.getElem?_take, if_pos ha]; exact h
theorem lyTN {n : Nat} {q : Nat × Nat} (h : lay0[n]? = some q) : (lay0.take n).length = n := by
  have := (List.getElem?_eq_some_iff.mp h).1
  rw [List.length_take]; omega
theorem lyTS {n : Nat} {q : Nat × Nat} (h : lay0[n]? = some q) : lay0.take n ++ [q] = lay0.take (n + 1) := by
  rw [List.take_add_one, h]; rfl
theorem clr_id {β : Type} (F : Nat → Int → β) (q : Nat) (v : β) (h : ∀ i, F q i = v) : mClr F q v = F := by
  funext b
  unfold mClr
  by_cases hb : b = q
  · rw [if_pos hb]; funext i; rw [hb, h i]
  · rw [if_neg hb]
theorem newM {q kd N : Nat} {I : mIt} {P : mPt} (h : lay0[q]? = some (kd, N)) (hf : ∀ i, I q i = 0 ∧ P q i = none) : mNew (lay0.take q, I, P) kd N = (lay0.take (q + 1), I, P) := by
  unfold mNew
  simp only [lyTN h, lyTS h]
  rw [clr_id I q 0 (fun i => (hf i).1), clr_id P q none (fun i => (hf i).2)]
section ROWS6
variable {k : Nat} {d dj : mD} {S : Option (Nat × (Nat → Int))} {u : Nat × Nat} {Q : Option mV → mM → Prop} {pc : Nat} {lv : List (Nat × mV)} {st : List mV} {M M' : mM} {I : mIt} {P : mPt}
theorem r_newt {q kd idx : Nat} (hd : decode d.2.1 pc = .ok (.new idx, 3)) (hcl : Cond.classLink d.1.cls idx (mRx kd) ∈ mTb) (hins : Cond.instantiable (mRx kd) (mNx kd) ∈ mTb) (hini : Cond.initialized (mRx kd) ∈ mTb) (hk : kd < 7) (hq : q + 1 < 1000) (hl : lay0[q]? = some (kd, mNx kd)) (hf : ∀ i, I q i = 0 ∧ P q i = none) (M' : mM) (hM : (lay0.take (q + 1), I, P) = M') (hu1 : u.1 + 1 ≤ d.2.2.2.2.1) (hu2 : u.2 + mNx kd ≤ d.2.2.2.2.2)
    (kk : WP k d S (u.1 + 1, u.2 + mNx kd) Q (pc + 3) lv (.inr (some q) :: st) M') : WP k d S u Q pc lv st (lay0.take q, I, P) := by
  refine r_new hd hcl hins hini hk (by show (lay0.take q).length + 1 < 1000; rw [lyTN hl]; exact hq) hu1 hu2 ?_
  rw [newM hl hf, show ((lay0.take q, I, P) : mM).1.length = q from lyTN hl, hM]
  exact kk
theorem r_newIt {n : Int} {q N : Nat} (hd : decode d.2.1 pc = .ok (.newarray .int, 2)) (hw : Cond.arrayClass .int ∈ mTb) (hN : n = (N : Int)) (hN2 : N < 1000) (hq : q + 1 < 1000) (hl : lay0[q]? = some (10, N)) (hf : ∀ i, I q i = 0 ∧ P q i = none) (M' : mM) (hM : (lay0.take (q + 1), I, P) = M') (hu1 : u.1 + 1 ≤ d.2.2.2.2.1) (hu2 : u.2 + N ≤ d.2.2.2.2.2)
    (kk : WP k d S (u.1 + 1, u.2 + N) Q (pc + 2) lv (.inr (some q) :: st) M') : WP k d S u Q pc lv (.inl n :: st) (lay0.take q, I, P) := by
  refine r_newI hd hw hN hN2 (by show (lay0.take q).length + 1 < 1000; rw [lyTN hl]; exact hq) hu1 hu2 ?_
  rw [newM hl hf, show ((lay0.take q, I, P) : mM).1.length = q from lyTN hl, hM]
  exact kk
theorem r_newCt {n : Int} {q N : Nat} (hd : decode d.2.1 pc = .ok (.newarray .char, 2)) (hw : Cond.arrayClass .char ∈ mTb) (hN : n = (N : Int)) (hN2 : N < 1000) (hq : q + 1 < 1000) (hl : lay0[q]? = some (11, N)) (hf : ∀ i, I q i = 0 ∧ P q i = none) (M' : mM) (hM : (lay0.take (q + 1), I, P) = M') (hu1 : u.1 + 1 ≤ d.2.2.2.2.1) (hu2 : u.2 + N ≤ d.2.2.2.2.2)
    (kk : WP k d S (u.1 + 1, u.2 + N) Q (pc + 2) lv (.inr (some q) :: st) M') : WP k d S u Q pc lv (.inl n :: st) (lay0.take q, I, P) := by
  refine r_newC hd hw hN hN2 (by show (lay0.take q).length + 1 < 1000; rw [lyTN hl]; exact hq) hu1 hu2 ?_
  rw [newM hl hf, show ((lay0.take q, I, P) : mM).1.length = q from lyTN hl, hM]
  exact kk
theorem r_newNt {n : Int} {q N idx : Nat} (hd : decode d.2.1 pc = .ok (.anewarray idx, 3)) (hcl : Cond.classLink d.1.cls idx RX0 ∈ mTb) (hN : n = (N : Int)) (hN2 : N < 1000) (hq : q + 1 < 1000) (hl : lay0[q]? = some (12, N)) (hf : ∀ i, I q i = 0 ∧ P q i = none) (M' : mM) (hM : (lay0.take (q + 1), I, P) = M') (hu1 : u.1 + 1 ≤ d.2.2.2.2.1) (hu2 : u.2 + N ≤ d.2.2.2.2.2)
    (kk : WP k d S (u.1 + 1, u.2 + N) Q (pc + 3) lv (.inr (some q) :: st) M') : WP k d S u Q pc lv (.inl n :: st) (lay0.take q, I, P) := by
  refine r_newN hd hcl hN hN2 (by show (lay0.take q).length + 1 < 1000; rw [lyTN hl]; exact hq) hu1 hu2 ?_
  rw [newM hl hf, show ((lay0.take q, I, P) : mM).1.length = q from lyTN hl, hM]
  exact kk
theorem r_newRt {n : Int} {q N idx : Nat} (hd : decode d.2.1 pc = .ok (.anewarray idx, 3)) (hcl : Cond.classLink d.1.cls idx RX2 ∈ mTb) (hN : n = (N : Int)) (hN2 : N < 1000) (hq : q + 1 < 1000) (hl : lay0[q]? = some (13, N)) (hf : ∀ i, I q i = 0 ∧ P q i = none) (M' : mM) (hM : (lay0.take (q + 1), I, P) = M') (hu1 : u.1 + 1 ≤ d.2.2.2.2.1) (hu2 : u.2 + N ≤ d.2.2.2.2.2)
    (kk : WP k d S (u.1 + 1, u.2 + N) Q (pc + 3) lv (.inr (some q) :: st) M') : WP k d S u Q pc lv (.inl n :: st) (lay0.take q, I, P) := by
  refine r_newR hd hcl hN hN2 (by show (lay0.take q).length + 1 < 1000; rw [lyTN hl]; exact hq) hu1 hu2 ?_
  rw [newM hl hf, show ((lay0.take q, I, P) : mM).1.length = q from lyTN hl, hM]
  exact kk
theorem r_cI {idx a n1 n2 : Nat} (hd : decode d.2.1 pc = .ok (.invokespecial idx, 3)) (hl0 : Cond.methodLink d.1.cls idx dj.1 ∈ mTb) (hin : Cond.instanceMethod dj.1 ∈ mTb) (hnm : dj.1.name = "<init>") (hvr : dj.2.2.2.1 = none) (ho : mOk dj 0) (hml : 1 ≤ dj.2.2.1) (hz : dj.2.2.2.2 = (n1, n2)) (hr8 : st.length ≤ 8) (hu1 : u.1 + n1 ≤ d.2.2.2.2.1) (hu2 : u.2 + n2 ≤ d.2.2.2.2.2)
    (hF : WP k dj none (0, 0) (Rt none M') 0 [(0, .inr (some a))] [] M) (kk : WP (k + 1) d S (u.1 + n1, u.2 + n2) Q (pc + 3) lv st M') : WP (k + 1) d S u Q pc lv (.inr (some a) :: st) M := by
  refine r_invI (as := []) hd hl0 hin hnm hvr ho (by simpa using hml) hr8 (by rw [hz]; exact hu1) (by rw [hz]; exact hu2) hF (fun r N h => ?_)
  obtain ⟨rfl, rfl⟩ := h
  rw [hz]
  exact kk
theorem r_cIN {idx a n1 n2 : Nat} (hd : decode d.2.1 pc = .ok (.invokespecial idx, 3)) (hl0 : (d.1.cls, idx, dj.1, RX5) ∈ mNest) (hin : Cond.instanceMethod dj.1 ∈ mTb) (hnm : dj.1.name = "<init>") (hvr : dj.2.2.2.1 = none) (ho : mOk dj 0) (hml : 1 ≤ dj.2.2.1) (hz : dj.2.2.2.2 = (n1, n2)) (hr8 : st.length ≤ 8) (hu1 : u.1 + n1 ≤ d.2.2.2.2.1) (hu2 : u.2 + n2 ≤ d.2.2.2.2.2)
    (hF : WP k dj none (0, 0) (Rt none M') 0 [(0, .inr (some a))] [] M) (kk : WP (k + 1) d S (u.1 + n1, u.2 + n2) Q (pc + 3) lv st M') : WP (k + 1) d S u Q pc lv (.inr (some a) :: st) M := by
  refine r_invIN (as := []) hd hl0 hin hnm hvr ho (by simpa using hml) hr8 (by rw [hz]; exact hu1) (by rw [hz]; exact hu2) hF (fun r N h => ?_)
  obtain ⟨rfl, rfl⟩ := h
  rw [hz]
  exact kk
theorem r_putRFs {a kd j idx : Nat} {r : Option Nat} (M' : mM) (hd : decode d.2.1 pc = .ok (.putfield idx, 3)) (hw : Cond.fieldLink d.1.cls idx (mTx kd j).1 (mTx kd j).2.1 (mTx kd j).2.2.1 ∈ mTb) (ha : M.1[a]? = some (kd, mNx kd)) (hk : kd < 7) (hj : j < mNx kd) (hr : mRef kd j = true) (hf : (mTx kd j).2.2.2 = true) (hin : d.1.name = "<init>") (hdc : (mTx kd j).1 = d.1.cls) (hM : (M.1, M.2.1, mUp M.2.2 a j r) = M')
    (kk : WP k d S u Q (pc + 3) lv st M') : WP k d S u Q pc lv (.inr r :: .inr (some a) :: st) M := r_putRF hd hw ha hk hj hr hf hin hdc (by rw [hM]; exact kk)
theorem r_aast12s {a n x : Nat} {i : Int} (M' : mM) (hd : decode d.2.1 pc = .ok (.aastore, 1)) (ha : M.1[a]? = some (12, n)) (h0 : 0 ≤ i) (h1 : i < (n : Int)) (hxc : M.1[x]? = some (0, mNx 0)) (hM : (M.1, M.2.1, mUp M.2.2 a i (some x)) = M')
    (kk : WP k d S u Q (pc + 1) lv st M') : WP k d S u Q pc lv (.inr (some x) :: .inl i :: .inr (some a) :: st) M := r_aast12 hd ha h0 h1 hxc (by rw [hM]; exact kk)
end ROWS6
def laN (b : Nat) : Prop := lay0[b]? = some (0, 2) ∧ lay0[b + 1]? = some (10, 8) ∧ lay0[b + 2]? = some (10, 8)
def laV (b : Nat) : Prop := lay0[b]? = some (4, 3) ∧ lay0[b + 1]? = some (10, 7) ∧ lay0[b + 2]? = some (10, 7) ∧ lay0[b + 3]? = some (10, 7)
def laO (b : Nat) : Prop := lay0[b]? = some (1, 6) ∧ lay0[b + 1]? = some (10, 6) ∧ lay0[b + 2]? = some (10, 6) ∧ lay0[b + 3]? = some (10, 6) ∧ lay0[b + 4]? = some (10, 6) ∧ lay0[b + 5]? = some (10, 6)
def laR (b : Nat) : Prop := (lay0.drop b).take 25 = layR
theorem laR_at {b : Nat} (h : laR b) (j : Nat) (q : Nat × Nat) (hq : layR[j]? = some q) (hj : j < 25) : lay0[b + j]? = some q := by
  unfold laR at h
  rw [← h, List.getElem?_take, if_pos hj, List.getElem?_drop] at hq
  exact hq
theorem laR_0 {b : Nat} (h : laR b) : lay0[b]? = some (2, 12) := laR_at h 0 _ rfl (by decide)
theorem laR_N {b : Nat} (h : laR b) (j : Nat) (h0 : layR[j]? = some (0, 2)) (h1 : layR[j + 1]? = some (10, 8)) (h2 : layR[j + 2]? = some (10, 8)) (hj : j + 2 < 25) : laN (b + j) := ⟨laR_at h j _ h0 (by omega), laR_at h (j + 1) _ h1 (by omega), laR_at h (j + 2) _ h2 hj⟩
theorem laR_V {b : Nat} (h : laR b) : laV (b + 5) := ⟨laR_at h 5 _ rfl (by decide), laR_at h 6 _ rfl (by decide), laR_at h 7 _ rfl (by decide), laR_at h 8 _ rfl (by decide)⟩
theorem laR_O {b : Nat} (h : laR b) : laO (b + 9) := ⟨laR_at h 9 _ rfl (by decide), laR_at h 10 _ rfl (by decide), laR_at h 11 _ rfl (by decide), laR_at h 12 _ rfl (by decide), laR_at h 13 _ rfl (by decide), laR_at h 14 _ rfl (by decide)⟩
theorem la_lt {b : Nat} {q : Nat × Nat} (h : lay0[b]? = some q) : b < 163 := (List.getElem?_eq_some_iff.mp h).1
def fresh (I : mIt) (P : mPt) (b : Nat) : Prop := ∀ a, b < a → ∀ i, I a i = 0 ∧ P a i = none
set_option maxRecDepth 20000 in
set_option maxHeartbeats 4000000 in
theorem Fn_X0_init (k : Nat) (I : mIt) (P : mPt) (b : Nat) (hL : laN b) (hfr : ∀ a, b < a → ∀ i, I a i = 0 ∧ P a i = none) : WP (k + 1) mX0_init none (0, 0) (Rt none (lay0.take (b + 3), cpy I (b + 1) 8 (fun _ => -1), mUp (mUp P b 0 (some (b + 1))) b 1 (some (b + 2)))) 0 [(0, .inr (some b))] [] ((lay0.take (b + 1)), I, P) := by
  have hlt := la_lt hL.2.2
  refine r_aload_n (d := mX0_init) (pc := 0) (i := 0) (v := b) dX0_init_0 rfl rfl ?_
  refine r_obj (d := mX0_init) (pc := 1) dX0_init_1 mlRX0_3 inOBJ cdOBJ (by omega) (Nat.le_of_ble_eq_true rfl) ?_
  refine r_aload_n (d := mX0_init) (pc := 4) (i := 0) (v := b) dX0_init_4 rfl rfl ?_
  refine r_bipush (d := mX0_init) (pc := 5) (n := 8) dX0_init_5 ?_
  refine r_newIt (d := mX0_init) (pc := 7) (q := b + 1) (N := 8) dX0_init_7 ac_int rfl (by decide) (by omega) (hL.2.1) (by intro i; simp [mUp, cpy, fset, hfr]) ((lay0.take (b + 2)), I, P) rfl (by decide) (by decide) ?_
  refine r_putRFs (d := mX0_init) (pc := 9) (a := b) (kd := 0) (j := 0) ((lay0.take (b + 2)), I, mUp P b 0 (some (b + 1))) dX0_init_9 flRX0_9 (lyTL (hL.1) (by omega)) (by decide) (by decide) rfl rfl (by decide +kernel) (by decide +kernel) rfl ?_
  refine r_aload_n (d := mX0_init) (pc := 12) (i := 0) (v := b) dX0_init_12 rfl rfl ?_
  refine r_bipush (d := mX0_init) (pc := 13) (n := 8) dX0_init_13 ?_
  refine r_newIt (d := mX0_init) (pc := 15) (q := b + 2) (N := 8) dX0_init_15 ac_int rfl (by decide) (by omega) (hL.2.2) (by intro i; simp [mUp, cpy, fset, hfr]) ((lay0.take (b + 3)), I, mUp P b 0 (some (b + 1))) rfl (by decide) (by decide) ?_
  refine r_putRFs (d := mX0_init) (pc := 17) (a := b) (kd := 0) (j := 1) ((lay0.take (b + 3)), I, mUp (mUp P b 0 (some (b + 1))) b 1 (some (b + 2))) dX0_init_17 flRX0_15 (lyTL (hL.1) (by omega)) (by decide) (by decide) rfl rfl (by decide +kernel) (by decide +kernel) rfl ?_
  refine r_iconst (d := mX0_init) (pc := 20) (n := 0) dX0_init_20 ?_
  refine r_istore_n (d := mX0_init) (pc := 21) (i := 1) (lv' := [(0, .inr (some b)), (1, .inl 0)]) dX0_init_21 rfl (by decide) rfl rfl ?_
  have L22 : ∀ j : Nat, j ≤ 8 → WP (k + 1) mX0_init none (2, 16) (Rt none (lay0.take (b + 3), cpy I (b + 1) 8 (fun _ => -1), mUp (mUp P b 0 (some (b + 1))) b 1 (some (b + 2)))) 22 [(0, .inr (some b)), (1, .inl (j : Int))] [] ((lay0.take (b + 3)), cpy I (b + 1) j (fun _ => -1), mUp (mUp P b 0 (some (b + 1))) b 1 (some (b + 2))) := by
    refine loopN (8) _ (fun j ih22 hj22 => ?_)
    refine r_iload_n (d := mX0_init) (pc := 22) (i := 1) (v := (j : Int)) dX0_init_22 rfl rfl ?_
    refine r_bipush (d := mX0_init) (pc := 23) (n := 8) dX0_init_23 ?_
    refine r_icmp_ge (d := mX0_init) (pc := 25) (tgt := 41) dX0_init_25 (by decide) (fun h25 => ?_) (fun h25 => ?_)
    · exact r_ret (d := mX0_init) (pc := 41) dX0_init_41 rfl (rtV (by rw [show j = 8 by omega])) (by decide) (by decide)
    · refine r_aload_n (d := mX0_init) (pc := 28) (i := 0) (v := b) dX0_init_28 rfl rfl ?_
      refine r_getRs (d := mX0_init) (pc := 29) (a := b) (kd := 0) (j := 0) (x := b + 1) dX0_init_29 flRX0_9 (lyTL (hL.1) (by omega)) (by decide) (by decide) rfl (by simp [mUp, fset]) ?_
      refine r_iload_n (d := mX0_init) (pc := 32) (i := 1) (v := (j : Int)) dX0_init_32 rfl rfl ?_
      refine r_iconst (d := mX0_init) (pc := 33) (n := (-1)) dX0_init_33 ?_
      refine r_iasts (d := mX0_init) (pc := 34) (a := b + 1) ((lay0.take (b + 3)), mUp (cpy I (b + 1) j (fun _ => -1)) (b + 1) (j : Int) (-1), mUp (mUp P b 0 (some (b + 1))) b 1 (some (b + 2))) dX0_init_34 (lyTL (hL.2.1) (by omega)) (by omega) (by omega) rfl ?_
      refine r_iinc (d := mX0_init) (pc := 35) (i := 1) (v := (j : Int)) (y := ((j + 1 : Nat) : Int)) (lv' := [(0, .inr (some b)), (1, .inl ((j + 1 : Nat) : Int))]) dX0_init_35 rfl (by decide) rfl (by omega) rfl ?_
      refine r_goto (d := mX0_init) (pc := 38) (tgt := 22) dX0_init_38 (by decide) ?_
      exact wpE (by simp) rfl (by rw [cpy_s _ _ _ _ _ rfl]) (ih22 (by omega) (by omega))
  exact wpE (by simp) rfl (by rw [cpy_0]) (L22 0 (by omega))
set_option maxRecDepth 20000 in
set_option maxHeartbeats 4000000 in
theorem Fn_X4_init (k : Nat) (I : mIt) (P : mPt) (b : Nat) (hL : laV b) (hfr : ∀ a, b < a → ∀ i, I a i = 0 ∧ P a i = none) : WP (k + 1) mX4_init none (0, 0) (Rt none (lay0.take (b + 4), I, mUp (mUp (mUp P b 0 (some (b + 1))) b 1 (some (b + 2))) b 2 (some (b + 3)))) 0 [(0, .inr (some b))] [] ((lay0.take (b + 1)), I, P) := by
  have hlt := la_lt hL.2.2.2
  refine r_aload_n (d := mX4_init) (pc := 0) (i := 0) (v := b) dX4_init_0 rfl rfl ?_
  refine r_obj (d := mX4_init) (pc := 1) dX4_init_1 mlRX4_3 inOBJ cdOBJ (by omega) (Nat.le_of_ble_eq_true rfl) ?_
  refine r_aload_n (d := mX4_init) (pc := 4) (i := 0) (v := b) dX4_init_4 rfl rfl ?_
  refine r_bipush (d := mX4_init) (pc := 5) (n := 7) dX4_init_5 ?_
  refine r_newIt (d := mX4_init) (pc := 7) (q := b + 1) (N := 7) dX4_init_7 ac_int rfl (by decide) (by omega) (hL.2.1) (by intro i; simp [mUp, cpy, fset, hfr]) ((lay0.take (b + 2)), I, P) rfl (by decide) (by decide) ?_
  refine r_putRFs (d := mX4_init) (pc := 9) (a := b) (kd := 4) (j := 0) ((lay0.take (b + 2)), I, mUp P b 0 (some (b + 1))) dX4_init_9 flRX4_9 (lyTL (hL.1) (by omega)) (by decide) (by decide) rfl rfl (by decide +kernel) (by decide +kernel) rfl ?_
  refine r_aload_n (d := mX4_init) (pc := 12) (i := 0) (v := b) dX4_init_12 rfl rfl ?_
  refine r_bipush (d := mX4_init) (pc := 13) (n := 7) dX4_init_13 ?_
  refine r_newIt (d := mX4_init) (pc := 15) (q := b + 2) (N := 7) dX4_init_15 ac_int rfl (by decide) (by omega) (hL.2.2.1) (by intro i; simp [mUp, cpy, fset, hfr]) ((lay0.take (b + 3)), I, mUp P b 0 (some (b + 1))) rfl (by decide) (by decide) ?_
  refine r_putRFs (d := mX4_init) (pc := 17) (a := b) (kd := 4) (j := 1) ((lay0.take (b + 3)), I, mUp (mUp P b 0 (some (b + 1))) b 1 (some (b + 2))) dX4_init_17 flRX4_15 (lyTL (hL.1) (by omega)) (by decide) (by decide) rfl rfl (by decide +kernel) (by decide +kernel) rfl ?_
  refine r_aload_n (d := mX4_init) (pc := 20) (i := 0) (v := b) dX4_init_20 rfl rfl ?_
  refine r_bipush (d := mX4_init) (pc := 21) (n := 7) dX4_init_21 ?_
  refine r_newIt (d := mX4_init) (pc := 23) (q := b + 3) (N := 7) dX4_init_23 ac_int rfl (by decide) (by omega) (hL.2.2.2) (by intro i; simp [mUp, cpy, fset, hfr]) ((lay0.take (b + 4)), I, mUp (mUp P b 0 (some (b + 1))) b 1 (some (b + 2))) rfl (by decide) (by decide) ?_
  refine r_putRFs (d := mX4_init) (pc := 25) (a := b) (kd := 4) (j := 2) ((lay0.take (b + 4)), I, mUp (mUp (mUp P b 0 (some (b + 1))) b 1 (some (b + 2))) b 2 (some (b + 3))) dX4_init_25 flRX4_18 (lyTL (hL.1) (by omega)) (by decide) (by decide) rfl rfl (by decide +kernel) (by decide +kernel) rfl ?_
  exact r_ret (d := mX4_init) (pc := 28) dX4_init_28 rfl (rtV (by rfl)) (by decide) (by decide)
set_option maxRecDepth 20000 in
set_option maxHeartbeats 4000000 in
theorem Fn_X1_init (k : Nat) (I : mIt) (P : mPt) (b : Nat) (hL : laO b) (hfr : ∀ a, b < a → ∀ i, I a i = 0 ∧ P a i = none) : WP (k + 1) mX1_init none (0, 0) (Rt none (lay0.take (b + 6), mUp I b 0 0, mUp (mUp (mUp (mUp (mUp P b 1 (some (b + 1))) b 2 (some (b + 2))) b 3 (some (b + 3))) b 4 (some (b + 4))) b 5 (some (b + 5)))) 0 [(0, .inr (some b))] [] ((lay0.take (b + 1)), I, P) := by
  have hlt := la_lt hL.2.2.2.2.2
  refine r_aload_n (d := mX1_init) (pc := 0) (i := 0) (v := b) dX1_init_0 rfl rfl ?_
  refine r_obj (d := mX1_init) (pc := 1) dX1_init_1 mlRX1_3 inOBJ cdOBJ (by omega) (Nat.le_of_ble_eq_true rfl) ?_
  refine r_aload_n (d := mX1_init) (pc := 4) (i := 0) (v := b) dX1_init_4 rfl rfl ?_
  refine r_iconst (d := mX1_init) (pc := 5) (n := 0) dX1_init_5 ?_
  refine r_putIs (d := mX1_init) (pc := 6) (a := b) (kd := 1) (j := 0) ((lay0.take (b + 1)), mUp I b 0 0, P) dX1_init_6 flRX1_9 (lyTL (hL.1) (by omega)) (by decide) (by decide) rfl rfl (Or.inl rfl) rfl ?_
  refine r_aload_n (d := mX1_init) (pc := 9) (i := 0) (v := b) dX1_init_9 rfl rfl ?_
  refine r_bipush (d := mX1_init) (pc := 10) (n := 6) dX1_init_10 ?_
  refine r_newIt (d := mX1_init) (pc := 12) (q := b + 1) (N := 6) dX1_init_12 ac_int rfl (by decide) (by omega) (hL.2.1) (by intro i; simp [mUp, cpy, fset, hfr]) ((lay0.take (b + 2)), mUp I b 0 0, P) rfl (by decide) (by decide) ?_
  refine r_putRFs (d := mX1_init) (pc := 14) (a := b) (kd := 1) (j := 1) ((lay0.take (b + 2)), mUp I b 0 0, mUp P b 1 (some (b + 1))) dX1_init_14 flRX1_15 (lyTL (hL.1) (by omega)) (by decide) (by decide) rfl rfl (by decide +kernel) (by decide +kernel) rfl ?_
  refine r_aload_n (d := mX1_init) (pc := 17) (i := 0) (v := b) dX1_init_17 rfl rfl ?_
  refine r_bipush (d := mX1_init) (pc := 18) (n := 6) dX1_init_18 ?_
  refine r_newIt (d := mX1_init) (pc := 20) (q := b + 2) (N := 6) dX1_init_20 ac_int rfl (by decide) (by omega) (hL.2.2.1) (by intro i; simp [mUp, cpy, fset, hfr]) ((lay0.take (b + 3)), mUp I b 0 0, mUp P b 1 (some (b + 1))) rfl (by decide) (by decide) ?_
  refine r_putRFs (d := mX1_init) (pc := 22) (a := b) (kd := 1) (j := 2) ((lay0.take (b + 3)), mUp I b 0 0, mUp (mUp P b 1 (some (b + 1))) b 2 (some (b + 2))) dX1_init_22 flRX1_19 (lyTL (hL.1) (by omega)) (by decide) (by decide) rfl rfl (by decide +kernel) (by decide +kernel) rfl ?_
  refine r_aload_n (d := mX1_init) (pc := 25) (i := 0) (v := b) dX1_init_25 rfl rfl ?_
  refine r_bipush (d := mX1_init) (pc := 26) (n := 6) dX1_init_26 ?_
  refine r_newIt (d := mX1_init) (pc := 28) (q := b + 3) (N := 6) dX1_init_28 ac_int rfl (by decide) (by omega) (hL.2.2.2.1) (by intro i; simp [mUp, cpy, fset, hfr]) ((lay0.take (b + 4)), mUp I b 0 0, mUp (mUp P b 1 (some (b + 1))) b 2 (some (b + 2))) rfl (by decide) (by decide) ?_
  refine r_putRFs (d := mX1_init) (pc := 30) (a := b) (kd := 1) (j := 3) ((lay0.take (b + 4)), mUp I b 0 0, mUp (mUp (mUp P b 1 (some (b + 1))) b 2 (some (b + 2))) b 3 (some (b + 3))) dX1_init_30 flRX1_22 (lyTL (hL.1) (by omega)) (by decide) (by decide) rfl rfl (by decide +kernel) (by decide +kernel) rfl ?_
  refine r_aload_n (d := mX1_init) (pc := 33) (i := 0) (v := b) dX1_init_33 rfl rfl ?_
  refine r_bipush (d := mX1_init) (pc := 34) (n := 6) dX1_init_34 ?_
  refine r_newIt (d := mX1_init) (pc := 36) (q := b + 4) (N := 6) dX1_init_36 ac_int rfl (by decide) (by omega) (hL.2.2.2.2.1) (by intro i; simp [mUp, cpy, fset, hfr]) ((lay0.take (b + 5)), mUp I b 0 0, mUp (mUp (mUp P b 1 (some (b + 1))) b 2 (some (b + 2))) b 3 (some (b + 3))) rfl (by decide) (by decide) ?_
  refine r_putRFs (d := mX1_init) (pc := 38) (a := b) (kd := 1) (j := 4) ((lay0.take (b + 5)), mUp I b 0 0, mUp (mUp (mUp (mUp P b 1 (some (b + 1))) b 2 (some (b + 2))) b 3 (some (b + 3))) b 4 (some (b + 4))) dX1_init_38 flRX1_25 (lyTL (hL.1) (by omega)) (by decide) (by decide) rfl rfl (by decide +kernel) (by decide +kernel) rfl ?_
  refine r_aload_n (d := mX1_init) (pc := 41) (i := 0) (v := b) dX1_init_41 rfl rfl ?_
  refine r_bipush (d := mX1_init) (pc := 42) (n := 6) dX1_init_42 ?_
  refine r_newIt (d := mX1_init) (pc := 44) (q := b + 5) (N := 6) dX1_init_44 ac_int rfl (by decide) (by omega) (hL.2.2.2.2.2) (by intro i; simp [mUp, cpy, fset, hfr]) ((lay0.take (b + 6)), mUp I b 0 0, mUp (mUp (mUp (mUp P b 1 (some (b + 1))) b 2 (some (b + 2))) b 3 (some (b + 3))) b 4 (some (b + 4))) rfl (by decide) (by decide) ?_
  refine r_putRFs (d := mX1_init) (pc := 46) (a := b) (kd := 1) (j := 5) ((lay0.take (b + 6)), mUp I b 0 0, mUp (mUp (mUp (mUp (mUp P b 1 (some (b + 1))) b 2 (some (b + 2))) b 3 (some (b + 3))) b 4 (some (b + 4))) b 5 (some (b + 5))) dX1_init_46 flRX1_28 (lyTL (hL.1) (by omega)) (by decide) (by decide) rfl rfl (by decide +kernel) (by decide +kernel) rfl ?_
  exact r_ret (d := mX1_init) (pc := 49) dX1_init_49 rfl (rtV (by rfl)) (by decide) (by decide)
