/-! ===== rows of the memory: fields, arrays, new cells, texts, statics, the script, returns ===== -/
theorem mTb_of (ws : List Cond) (ps : List Nat) (hp : ws = ps.filterMap (fun i => tables_1[i]?)) (h : ws.all goodWord = true) : ∀ w ∈ ws, w ∈ mTb := by
  intro w hw
  have h1 := List.all_eq_true.mp h w hw
  rw [hp] at hw
  obtain ⟨i, -, hi⟩ := List.mem_filterMap.mp hw
  exact mTb_in hi h1
set_option maxRecDepth 20000 in
theorem mU0 : ∀ w ∈ u_ws RX0 TX0 2, w ∈ mTb := mTb_of _ [38, 40] rfl rfl
set_option maxRecDepth 20000 in
theorem mU1 : ∀ w ∈ u_ws RX1 TX1 6, w ∈ mTb := mTb_of _ [80, 82, 84, 86, 88, 90] rfl rfl
set_option maxRecDepth 20000 in
theorem mU2 : ∀ w ∈ u_ws RX2 TX2 12, w ∈ mTb := mTb_of _ [107, 109, 111, 113, 115, 117, 119, 121, 123, 125, 127, 129] rfl rfl
set_option maxRecDepth 20000 in
theorem mU3 : ∀ w ∈ u_ws RX3 TX3 4, w ∈ mTb := mTb_of _ [146, 148, 150, 152] rfl rfl
set_option maxRecDepth 20000 in
theorem mU4 : ∀ w ∈ u_ws RX4 TX4 3, w ∈ mTb := mTb_of _ [55, 57, 59] rfl rfl
set_option maxRecDepth 20000 in
theorem mU5 : ∀ w ∈ u_ws RX5 TX5 8, w ∈ mTb := mTb_of _ [164, 166, 168, 170, 172, 174, 176, 178] rfl rfl
set_option maxRecDepth 20000 in
theorem mU6 : ∀ w ∈ u_ws RX6 TX6 13, w ∈ mTb := mTb_of _ [638, 640, 642, 644, 646, 648, 650, 652, 654, 656, 658, 660, 662] rfl rfl
theorem mU {kd : Nat} (h : kd < 7) : ∀ w ∈ u_ws (mRx kd) (mTx kd) (mNx kd), w ∈ mTb := by
  match kd, h with
  | 0, _ => exact mU0
  | 1, _ => exact mU1
  | 2, _ => exact mU2
  | 3, _ => exact mU3
  | 4, _ => exact mU4
  | 5, _ => exact mU5
  | 6, _ => exact mU6
theorem mCl {kd : Nat} (h : kd < 7) : vwCl[kd]? = some (mRx kd, mTx kd, mNx kd) := by
  match kd, h with
  | 0, _ => rfl
  | 1, _ => rfl
  | 2, _ => rfl
  | 3, _ => rfl
  | 4, _ => rfl
  | 5, _ => rfl
  | 6, _ => rfl
theorem mTyOk {kd : Nat} (h : kd < 7) : ∀ k, k < mNx kd → parseFieldDescriptor (mTx kd k).2.2.1 = some (mTy kd k) := by
  match kd, h with
  | 0, _ => exact tyX0_ok
  | 1, _ => exact tyX1_ok
  | 2, _ => exact tyX2_ok
  | 3, _ => exact tyX3_ok
  | 4, _ => exact tyX4_ok
  | 5, _ => exact tyX5_ok
  | 6, _ => exact tyX6_ok
theorem mNm {kd : Nat} (h : kd < 7) : ∀ a, a < mNx kd → ∀ b, b < mNx kd → a ≠ b → (mTx kd a).2.1 ≠ (mTx kd b).2.1 := by
  match kd, h with
  | 0, _ => exact nmX0
  | 1, _ => exact nmX1
  | 2, _ => exact nmX2
  | 3, _ => exact nmX3
  | 4, _ => exact nmX4
  | 5, _ => exact nmX5
  | 6, _ => exact nmX6
theorem okM_upI {M : mM} (h : okM M) {x : Int} (hx : mI x) (a : Nat) (i : Int) : okM (M.1, mUp M.2.1 a i x, M.2.2) := by
  intro b j
  refine ⟨?_, (h b j).2⟩
  show mI (mUp M.2.1 a i x b j)
  unfold mUp fset
  by_cases hb : b = a
  · rw [if_pos hb]
    by_cases hj : j = i
    · simp only [hj, if_true]; exact hx
    · simp only [hj, if_false]; exact (h a j).1
  · rw [if_neg hb]; exact (h b j).1
theorem okM_upR {M : mM} (h : okM M) {r : Option Nat} (hr : okR M.1.length r) (a : Nat) (i : Int) : okM (M.1, M.2.1, mUp M.2.2 a i r) := by
  intro b j
  refine ⟨(h b j).1, ?_⟩
  show okR M.1.length (mUp M.2.2 a i r b j)
  unfold mUp fset
  by_cases hb : b = a
  · rw [if_pos hb]
    by_cases hj : j = i
    · simp only [hj, if_true]; exact hr
    · simp only [hj, if_false]; exact (h a j).2
  · rw [if_neg hb]; exact (h b j).2
theorem mE_obj {D : va_G} {al : Nat → Nat} {M : mM} {kd n a : Nat} (h : kd < 7) : mE D al M kd n a = .inr (kd, (List.range n).map (mFld al M kd a)) := by unfold mE; rw [if_pos h]
theorem mE_int {D : va_G} {al : Nat → Nat} {M : mM} {kd n a : Nat} (h : 7 ≤ kd) (h2 : kd < 12) : mE D al M kd n a = .inl (D.1 kd, n, .inl (fun j => Int32.ofInt (M.2.1 a j))) := by unfold mE; rw [if_neg (by omega), if_pos h2]
theorem mE_ref {D : va_G} {al : Nat → Nat} {M : mM} {kd n a : Nat} (h : 12 ≤ kd) : mE D al M kd n a = .inl (D.1 kd, n, .inr (.inr (.inr (.inr (fun j => (M.2.2 a j).map al))))) := by unfold mE; rw [if_neg (by omega), if_neg (by omega)]
theorem mRange_set {f g : Nat → Value} {n j : Nat} {v : Value} (h : ∀ i, g i = if i = j then v else f i) : ((List.range n).map f).set j v = (List.range n).map g := by
  apply List.ext_getElem?
  intro i
  rw [List.getElem?_set]
  by_cases hi : j = i
  · subst hi
    rw [if_pos rfl]
    by_cases hj : j < n
    · simp [hj, h]
    · simp [hj]
  · rw [if_neg hi]
    by_cases hj : i < n
    · simp [hj, h, show ¬ i = j from fun e => hi e.symm]
    · simp [hj]
/-- a store into a cell: the world behind it -/
theorem mWld_set {D : va_G} {al : Nat → Nat} {M M' : mM} {A : Nat → Prop} {H0 H1 : Heap} {locs1 : List Loc} {a : Nat} {kn : Nat × Nat} {e : va_E} (ha : M.1[a]? = some kn) (hl : M'.1 = M.1) (hI : ∀ b, b ≠ a → M'.2.1 b = M.2.1 b ∧ M'.2.2 b = M.2.2 b) (he : mE D al M' kn.1 kn.2 a = e) (hok : okM M') (hlen : M.1.length < 1000)
    (hP : va_P D vwCl ((mWs D al M).set a (al a, e)) H1) (hD : va_D A ((mWs D al M).set a (al a, e))) (hS : va_S A H0 H1 locs1) : mWld D al M' A H0 H1 locs1 := by
  have hs : (mWs D al M).set a (al a, e) = mWs D al M' := by
    refine mWs_set hl (fun b hb => ?_) ?_
    · unfold mCell
      rw [hl]
      cases hq : M.1[b]? with
      | none => rfl
      | some q =>
        have hf : mFld al M' q.1 b = mFld al M q.1 b := by
          funext j
          unfold mFld
          rw [(hI b hb).1, (hI b hb).2]
        show mE D al M' q.1 q.2 b = mE D al M q.1 q.2 b
        unfold mE
        rw [hf, (hI b hb).1, (hI b hb).2]
    · unfold mCell
      rw [hl, ha]
      exact he
  rw [hs] at hP hD
  exact ⟨hP, hD, hS, hok, by rw [hl]; exact hlen⟩
theorem mB2 {w : Cond} {s : State} {args args0 : Array Value} (h : w.before args0 s = true) (hw : w ∈ mTb) : w.before args s = true := by
  rcases good_of_word (List.mem_filter.mp hw).2 with hg | ⟨ty, rfl⟩
  · simp only [Bool.and_eq_true] at hg
    exact va_tabs hg.1 rfl h
  · exact h
theorem nar_char {x : Int} (h0 : 0 ≤ x) (h1 : x < 65536) : (Int32.ofInt x).toUInt32.toUInt16.toUInt32.toInt32 = Int32.ofInt x := by
  obtain ⟨n, rfl⟩ : ∃ n : Nat, x = n := ⟨x.toNat, by omega⟩
  have hn : n < 65536 := by omega
  rw [Int32.ofInt_eq_ofNat]
  have h2 : (Int32.ofNat n).toUInt32.toUInt16.toUInt32 = UInt32.ofNat n := by
    apply UInt32.toNat_inj.mp
    show (UInt32.ofNat n).toUInt16.toUInt32.toNat = (UInt32.ofNat n).toNat
    simp [UInt32.toNat_ofNat']
    omega
  rw [h2]
  rfl
theorem upd_at (f : Nat → Int32) (i : Nat) (v : Int32) : upd f i v i = v := by simp [upd]
theorem upd_ne (f : Nat → Int32) {i j : Nat} (v : Int32) (h : j ≠ i) : upd f i v j = f j := by simp [upd, h]
section ROWS2
variable {k : Nat} {d : mD} {S : Option (Nat × (Nat → Int))} {u : Nat × Nat} {Q : Option mV → mM → Prop} {pc : Nat} {lv : List (Nat × mV)} {st : List mV} {M : mM}
theorem r_getI {a kd j idx : Nat} (hd : decode d.2.1 pc = .ok (.getfield idx, 3)) (hw : Cond.fieldLink d.1.cls idx (mTx kd j).1 (mTx kd j).2.1 (mTx kd j).2.2.1 ∈ mTb) (ha : M.1[a]? = some (kd, mNx kd)) (hk : kd < 7) (hj : j < mNx kd) (hr : mRef kd j = false)
    (kk : WP k d S u Q (pc + 3) lv (.inl (M.2.1 a j) :: st) M) : WP k d S u Q pc lv (.inr (some a) :: st) M := by
  intro p l e R s m args below meth c D al0 n0 A QS C hS hret al H locs ls hag hn hW hst hlv hl
  have hx := C.1
  have hb := C.2.1
  have hts : ∀ w ∈ mTb, w.before args s = true := fun w hw => mB2 (C.2.2.2.2.2.1 w hw) hw
  have hown := C.2.2.2.2.1
  have hK := C.2.2.2.2.2.2.2.1
  obtain ⟨hP, hD, hVS, hok, hlen⟩ := hW
  have he := mWs_get (D := D) (al := al) ha
  rw [mE_obj hk] at he
  have hv : mFld al M kd a j = mc_v al (.inl (M.2.1 a j)) := by unfold mFld; rw [hr]; simp [mc_v]
  refine va_get (C := mRx kd) (T := mTx kd) (N := mNx kd) (ref := (mTx kd j).1) hx hb hts (mU hk) hown hK hP a he (mCl hk) j hj (hts _ hw) (fun x h => h) (v := mc_v al (.inl (M.2.1 a j))) (by simp [hj, hv]) hd ?_
  exact kk p l e R s m args below meth c D al0 n0 A QS C hS hret al H locs ls hag hn ⟨hP, hD, hVS, hok, hlen⟩ (ok_push (hok a j).1 (ok_tl hst)) hlv hl
theorem r_getR {a kd j idx : Nat} (hd : decode d.2.1 pc = .ok (.getfield idx, 3)) (hw : Cond.fieldLink d.1.cls idx (mTx kd j).1 (mTx kd j).2.1 (mTx kd j).2.2.1 ∈ mTb) (ha : M.1[a]? = some (kd, mNx kd)) (hk : kd < 7) (hj : j < mNx kd) (hr : mRef kd j = true)
    (kk : WP k d S u Q (pc + 3) lv (.inr (M.2.2 a j) :: st) M) : WP k d S u Q pc lv (.inr (some a) :: st) M := by
  intro p l e R s m args below meth c D al0 n0 A QS C hS hret al H locs ls hag hn hW hst hlv hl
  have hx := C.1
  have hb := C.2.1
  have hts : ∀ w ∈ mTb, w.before args s = true := fun w hw => mB2 (C.2.2.2.2.2.1 w hw) hw
  have hown := C.2.2.2.2.1
  have hK := C.2.2.2.2.2.2.2.1
  obtain ⟨hP, hD, hVS, hok, hlen⟩ := hW
  have he := mWs_get (D := D) (al := al) ha
  rw [mE_obj hk] at he
  have hv : mFld al M kd a j = mc_v al (.inr (M.2.2 a j)) := by unfold mFld; rw [hr]; simp [mc_v]
  refine va_get (C := mRx kd) (T := mTx kd) (N := mNx kd) (ref := (mTx kd j).1) hx hb hts (mU hk) hown hK hP a he (mCl hk) j hj (hts _ hw) (fun x h => h) (v := mc_v al (.inr (M.2.2 a j))) (by simp [hj, hv]) hd ?_
  exact kk p l e R s m args below meth c D al0 n0 A QS C hS hret al H locs ls hag hn ⟨hP, hD, hVS, hok, hlen⟩ (ok_push (hok a j).2 (ok_tl hst)) hlv hl
theorem narrow_ref {ty : FieldType} {v : Value} (h : fits ty v = true) (hr : tyRef ty = true) : narrow ty v = v := by
  cases ty <;> first | (cases hr; done) | (cases v <;> first | rfl | (cases h; done))
theorem r_putI {a kd j idx : Nat} {x : Int} (hd : decode d.2.1 pc = .ok (.putfield idx, 3)) (hw : Cond.fieldLink d.1.cls idx (mTx kd j).1 (mTx kd j).2.1 (mTx kd j).2.2.1 ∈ mTb) (ha : M.1[a]? = some (kd, mNx kd)) (hk : kd < 7) (hj : j < mNx kd) (hr : mRef kd j = false) (hf : (mTx kd j).2.2.2 = false) (hty : mTy kd j = .int ∨ (mTy kd j = .boolean ∧ (x = 0 ∨ x = 1)))
    (kk : WP k d S u Q (pc + 3) lv st (M.1, mUp M.2.1 a j x, M.2.2)) : WP k d S u Q pc lv (.inl x :: .inr (some a) :: st) M := by
  intro p l e R s m args below meth c D al0 n0 A QS C hS hret al H locs ls hag hn hW hst hlv hl
  have hx := C.1
  have hb := C.2.1
  have hts : ∀ w ∈ mTb, w.before args s = true := fun w hw => mB2 (C.2.2.2.2.2.1 w hw) hw
  have hown := C.2.2.2.2.1
  have hK := C.2.2.2.2.2.2.2.1
  obtain ⟨hP, hD, hVS, hok, hlen⟩ := hW
  have he := mWs_get (D := D) (al := al) ha
  rw [mE_obj hk] at he
  have hv := ok_hd hst
  have hnf : narrow (mTy kd j) (.int (Int32.ofInt x)) = .int (Int32.ofInt x) ∧ fits (mTy kd j) (.int (Int32.ofInt x)) = true := by
    rcases hty with h | ⟨h, rfl | rfl⟩ <;> rw [h] <;> exact ⟨rfl, rfl⟩
  refine va_put (C := mRx kd) (T := mTx kd) (N := mNx kd) (ref := (mTx kd j).1) hx hb hts (mU hk) (mTy kd) (mTyOk hk) (mNm hk) hown hK hP hD hVS a he (mCl hk) j hj (hts _ hw) (fun x h => h) hf (mTyOk hk j hj) (v := .int (Int32.ofInt x)) hnf.1 hnf.2 (by simp [hj]) hd (fun H1 locs1 hP1 hD1 hS1 => ?_)
  refine kk p l e R s m args below meth c D al0 n0 A QS C hS hret al H1 locs1 ls hag hn (mWld_set (M' := (M.1, mUp M.2.1 a j x, M.2.2)) ha rfl (fun b hb2 => ?_) ?_ (okM_upI hok hv a j) hlen hP1 hD1 hS1) (ok_tl (ok_tl hst)) hlv hl
  · exact ⟨mUp_ne _ _ _ hb2, rfl⟩
  · rw [mE_obj hk, ← mRange_set (f := mFld al M kd a) (j := j) (v := .int (Int32.ofInt x))]
    intro i
    unfold mFld
    by_cases hij : i = j
    · subst hij
      rw [if_pos rfl, hr]
      simp [mUp_at, fset_at]
    · rw [if_neg hij]
      simp only [mUp_at]
      rw [fset_ne _ _ (by omega)]
theorem r_putR {a kd j idx : Nat} {r : Option Nat} (hd : decode d.2.1 pc = .ok (.putfield idx, 3)) (hw : Cond.fieldLink d.1.cls idx (mTx kd j).1 (mTx kd j).2.1 (mTx kd j).2.2.1 ∈ mTb) (ha : M.1[a]? = some (kd, mNx kd)) (hk : kd < 7) (hj : j < mNx kd) (hr : mRef kd j = true) (hf : (mTx kd j).2.2.2 = false)
    (kk : WP k d S u Q (pc + 3) lv st (M.1, M.2.1, mUp M.2.2 a j r)) : WP k d S u Q pc lv (.inr r :: .inr (some a) :: st) M := by
  intro p l e R s m args below meth c D al0 n0 A QS C hS hret al H locs ls hag hn hW hst hlv hl
  have hx := C.1
  have hb := C.2.1
  have hts : ∀ w ∈ mTb, w.before args s = true := fun w hw => mB2 (C.2.2.2.2.2.1 w hw) hw
  have hown := C.2.2.2.2.1
  have hK := C.2.2.2.2.2.2.2.1
  obtain ⟨hP, hD, hVS, hok, hlen⟩ := hW
  have he := mWs_get (D := D) (al := al) ha
  rw [mE_obj hk] at he
  have hv := ok_hd hst
  have hnf : narrow (mTy kd j) (va_rf (r.map al)) = va_rf (r.map al) ∧ fits (mTy kd j) (va_rf (r.map al)) = true := by
    have h2 : fits (mTy kd j) (va_rf (r.map al)) = true := by
      unfold mRef at hr
      generalize mTy kd j = ty at hr
      cases ty <;> first | (cases hr; done) | (cases r <;> rfl)
    exact ⟨narrow_ref h2 hr, h2⟩
  refine va_put (C := mRx kd) (T := mTx kd) (N := mNx kd) (ref := (mTx kd j).1) hx hb hts (mU hk) (mTy kd) (mTyOk hk) (mNm hk) hown hK hP hD hVS a he (mCl hk) j hj (hts _ hw) (fun x h => h) hf (mTyOk hk j hj) (v := va_rf (r.map al)) hnf.1 hnf.2 (by simp [hj]) hd (fun H1 locs1 hP1 hD1 hS1 => ?_)
  refine kk p l e R s m args below meth c D al0 n0 A QS C hS hret al H1 locs1 ls hag hn (mWld_set (M' := (M.1, M.2.1, mUp M.2.2 a j r)) ha rfl (fun b hb2 => ?_) ?_ (okM_upR hok hv a j) hlen hP1 hD1 hS1) (ok_tl (ok_tl hst)) hlv hl
  · exact ⟨rfl, mUp_ne _ _ _ hb2⟩
  · rw [mE_obj hk, ← mRange_set (f := mFld al M kd a) (j := j) (v := va_rf (r.map al))]
    intro i
    unfold mFld
    by_cases hij : i = j
    · subst hij
      rw [if_pos rfl, hr]
      simp [mUp_at, fset_at]
    · rw [if_neg hij]
      simp only [mUp_at]
      rw [fset_ne _ _ (by omega)]
theorem r_putIF {a kd j idx : Nat} {x : Int} (hd : decode d.2.1 pc = .ok (.putfield idx, 3)) (hw : Cond.fieldLink d.1.cls idx (mTx kd j).1 (mTx kd j).2.1 (mTx kd j).2.2.1 ∈ mTb) (ha : M.1[a]? = some (kd, mNx kd)) (hk : kd < 7) (hj : j < mNx kd) (hr : mRef kd j = false) (hf : (mTx kd j).2.2.2 = true) (hin : d.1.name = "<init>") (hdc : (mTx kd j).1 = d.1.cls) (hty : mTy kd j = .int ∨ (mTy kd j = .boolean ∧ (x = 0 ∨ x = 1)))
    (kk : WP k d S u Q (pc + 3) lv st (M.1, mUp M.2.1 a j x, M.2.2)) : WP k d S u Q pc lv (.inl x :: .inr (some a) :: st) M := by
  intro p l e R s m args below meth c D al0 n0 A QS C hS hret al H locs ls hag hn hW hst hlv hl
  have hx := C.1
  have hb := C.2.1
  have hts : ∀ w ∈ mTb, w.before args s = true := fun w hw => mB2 (C.2.2.2.2.2.1 w hw) hw
  have hown := C.2.2.2.2.1
  have hK := C.2.2.2.2.2.2.2.1
  obtain ⟨hP, hD, hVS, hok, hlen⟩ := hW
  have he := mWs_get (D := D) (al := al) ha
  rw [mE_obj hk] at he
  have hv := ok_hd hst
  have hnf : narrow (mTy kd j) (.int (Int32.ofInt x)) = .int (Int32.ofInt x) ∧ fits (mTy kd j) (.int (Int32.ofInt x)) = true := by
    rcases hty with h | ⟨h, rfl | rfl⟩ <;> rw [h] <;> exact ⟨rfl, rfl⟩
  refine va_putF (C := mRx kd) (T := mTx kd) (N := mNx kd) (ref := (mTx kd j).1) hx hb hts (mU hk) (mTy kd) (mTyOk hk) (mNm hk) hown hK hP hD hVS a he (mCl hk) j hj (hts _ hw) (fun x h => h) hf (by rw [C.2.2.2.2.2.2.1]; exact hin) hdc (mTyOk hk j hj) (v := .int (Int32.ofInt x)) hnf.1 hnf.2 (by simp [hj]) hd (fun H1 locs1 hP1 hD1 hS1 => ?_)
  refine kk p l e R s m args below meth c D al0 n0 A QS C hS hret al H1 locs1 ls hag hn (mWld_set (M' := (M.1, mUp M.2.1 a j x, M.2.2)) ha rfl (fun b hb2 => ?_) ?_ (okM_upI hok hv a j) hlen hP1 hD1 hS1) (ok_tl (ok_tl hst)) hlv hl
  · exact ⟨mUp_ne _ _ _ hb2, rfl⟩
  · rw [mE_obj hk, ← mRange_set (f := mFld al M kd a) (j := j) (v := .int (Int32.ofInt x))]
    intro i
    unfold mFld
    by_cases hij : i = j
    · subst hij
      rw [if_pos rfl, hr]
      simp [mUp_at, fset_at]
    · rw [if_neg hij]
      simp only [mUp_at]
      rw [fset_ne _ _ (by omega)]
theorem r_putRF {a kd j idx : Nat} {r : Option Nat} (hd : decode d.2.1 pc = .ok (.putfield idx, 3)) (hw : Cond.fieldLink d.1.cls idx (mTx kd j).1 (mTx kd j).2.1 (mTx kd j).2.2.1 ∈ mTb) (ha : M.1[a]? = some (kd, mNx kd)) (hk : kd < 7) (hj : j < mNx kd) (hr : mRef kd j = true) (hf : (mTx kd j).2.2.2 = true) (hin : d.1.name = "<init>") (hdc : (mTx kd j).1 = d.1.cls)
    (kk : WP k d S u Q (pc + 3) lv st (M.1, M.2.1, mUp M.2.2 a j r)) : WP k d S u Q pc lv (.inr r :: .inr (some a) :: st) M := by
  intro p l e R s m args below meth c D al0 n0 A QS C hS hret al H locs ls hag hn hW hst hlv hl
  have hx := C.1
  have hb := C.2.1
  have hts : ∀ w ∈ mTb, w.before args s = true := fun w hw => mB2 (C.2.2.2.2.2.1 w hw) hw
  have hown := C.2.2.2.2.1
  have hK := C.2.2.2.2.2.2.2.1
  obtain ⟨hP, hD, hVS, hok, hlen⟩ := hW
  have he := mWs_get (D := D) (al := al) ha
  rw [mE_obj hk] at he
  have hv := ok_hd hst
  have hnf : narrow (mTy kd j) (va_rf (r.map al)) = va_rf (r.map al) ∧ fits (mTy kd j) (va_rf (r.map al)) = true := by
    have h2 : fits (mTy kd j) (va_rf (r.map al)) = true := by
      unfold mRef at hr
      generalize mTy kd j = ty at hr
      cases ty <;> first | (cases hr; done) | (cases r <;> rfl)
    exact ⟨narrow_ref h2 hr, h2⟩
  refine va_putF (C := mRx kd) (T := mTx kd) (N := mNx kd) (ref := (mTx kd j).1) hx hb hts (mU hk) (mTy kd) (mTyOk hk) (mNm hk) hown hK hP hD hVS a he (mCl hk) j hj (hts _ hw) (fun x h => h) hf (by rw [C.2.2.2.2.2.2.1]; exact hin) hdc (mTyOk hk j hj) (v := va_rf (r.map al)) hnf.1 hnf.2 (by simp [hj]) hd (fun H1 locs1 hP1 hD1 hS1 => ?_)
  refine kk p l e R s m args below meth c D al0 n0 A QS C hS hret al H1 locs1 ls hag hn (mWld_set (M' := (M.1, M.2.1, mUp M.2.2 a j r)) ha rfl (fun b hb2 => ?_) ?_ (okM_upR hok hv a j) hlen hP1 hD1 hS1) (ok_tl (ok_tl hst)) hlv hl
  · exact ⟨rfl, mUp_ne _ _ _ hb2⟩
  · rw [mE_obj hk, ← mRange_set (f := mFld al M kd a) (j := j) (v := va_rf (r.map al))]
    intro i
    unfold mFld
    by_cases hij : i = j
    · subst hij
      rw [if_pos rfl, hr]
      simp [mUp_at, fset_at]
    · rw [if_neg hij]
      simp only [mUp_at]
      rw [fset_ne _ _ (by omega)]
theorem r_iald {a n : Nat} {i : Int} (hd : decode d.2.1 pc = .ok (.iaload, 1)) (ha : M.1[a]? = some (10, n)) (h0 : 0 ≤ i) (h1 : i < (n : Int))
    (kk : WP k d S u Q (pc + 1) lv (.inl (M.2.1 a i) :: st) M) : WP k d S u Q pc lv (.inl i :: .inr (some a) :: st) M := by
  intro p l e R s m args below meth c D al0 n0 A QS C hS hret al H locs ls hag hn hW hst hlv hl
  have hx := C.1
  have hb := C.2.1
  have hts : ∀ w ∈ mTb, w.before args s = true := fun w hw => mB2 (C.2.2.2.2.2.1 w hw) hw
  have hown := C.2.2.2.2.1
  have hK := C.2.2.2.2.2.2.2.1
  obtain ⟨hP, hD, hVS, hok, hlen⟩ := hW
  have he : (mWs D al M)[a]? = some (al a, mE D al M 10 n a) := mWs_get ha
  rw [mE_int (by decide) (by decide)] at he
  have hi : mI i := ok_hd hst
  refine va_iald hx hb hK hP a 0 he rfl (mI_in hi h0 h1) hd ?_
  have h9 := kk p l e R s m args below meth c D al0 n0 A QS C hS hret al H locs ls hag hn ⟨hP, hD, hVS, hok, hlen⟩ (ok_push (v := .inl (M.2.1 a i)) (hok a i).1 (ok_tl (ok_tl hst))) hlv hl
  rw [mI_nat hi]
  have e9 : ((i.toNat : Nat) : Int) = i := by omega
  rw [e9]
  exact h9
theorem r_cald {a n : Nat} {i : Int} (hd : decode d.2.1 pc = .ok (.caload, 1)) (ha : M.1[a]? = some (11, n)) (h0 : 0 ≤ i) (h1 : i < (n : Int))
    (kk : WP k d S u Q (pc + 1) lv (.inl (M.2.1 a i) :: st) M) : WP k d S u Q pc lv (.inl i :: .inr (some a) :: st) M := by
  intro p l e R s m args below meth c D al0 n0 A QS C hS hret al H locs ls hag hn hW hst hlv hl
  have hx := C.1
  have hb := C.2.1
  have hts : ∀ w ∈ mTb, w.before args s = true := fun w hw => mB2 (C.2.2.2.2.2.1 w hw) hw
  have hown := C.2.2.2.2.1
  have hK := C.2.2.2.2.2.2.2.1
  obtain ⟨hP, hD, hVS, hok, hlen⟩ := hW
  have he : (mWs D al M)[a]? = some (al a, mE D al M 11 n a) := mWs_get ha
  rw [mE_int (by decide) (by decide)] at he
  have hi : mI i := ok_hd hst
  refine va_cald hx hb hK hP a 1 he rfl (mI_in hi h0 h1) hd ?_
  have h9 := kk p l e R s m args below meth c D al0 n0 A QS C hS hret al H locs ls hag hn ⟨hP, hD, hVS, hok, hlen⟩ (ok_push (v := .inl (M.2.1 a i)) (hok a i).1 (ok_tl (ok_tl hst))) hlv hl
  rw [mI_nat hi]
  have e9 : ((i.toNat : Nat) : Int) = i := by omega
  rw [e9]
  exact h9
theorem r_iast {a n : Nat} {i x : Int} (hd : decode d.2.1 pc = .ok (.iastore, 1)) (ha : M.1[a]? = some (10, n)) (h0 : 0 ≤ i) (h1 : i < (n : Int))
    (kk : WP k d S u Q (pc + 1) lv st (M.1, mUp M.2.1 a i x, M.2.2)) : WP k d S u Q pc lv (.inl x :: .inl i :: .inr (some a) :: st) M := by
  intro p l e R s m args below meth c D al0 n0 A QS C hS hret al H locs ls hag hn hW hst hlv hl
  have hx := C.1
  have hb := C.2.1
  have hts : ∀ w ∈ mTb, w.before args s = true := fun w hw => mB2 (C.2.2.2.2.2.1 w hw) hw
  have hown := C.2.2.2.2.1
  have hK := C.2.2.2.2.2.2.2.1
  obtain ⟨hP, hD, hVS, hok, hlen⟩ := hW
  have he : (mWs D al M)[a]? = some (al a, mE D al M 10 n a) := mWs_get ha
  rw [mE_int (by decide) (by decide)] at he
  have hi : mI i := ok_hd (ok_tl hst)
  have hxv : mI x := ok_hd hst
  refine va_iast hx hb hK hP hD hVS a 0 he rfl (mI_in hi h0 h1) hd (fun H1 locs1 hP1 hD1 hS1 => ?_)
  refine kk p l e R s m args below meth c D al0 n0 A QS C hS hret al H1 locs1 ls hag hn (mWld_set (M' := (M.1, mUp M.2.1 a i x, M.2.2)) ha rfl (fun b hb2 => ⟨mUp_ne _ _ _ hb2, rfl⟩) ?_ (okM_upI hok hxv a i) hlen hP1 hD1 hS1) (ok_tl (ok_tl (ok_tl hst))) hlv hl
  show mE D al (M.1, mUp M.2.1 a i x, M.2.2) 10 n a = _
  rw [mE_int (by decide) (by decide)]
  congr 4
  funext q
  rw [mI_nat hi]
  simp only [mUp_at]
  by_cases hq : q = i.toNat
  · subst hq
    have e9 : ((i.toNat : Nat) : Int) = i := by omega
    rw [e9, fset_at, upd_at]
  · rw [fset_ne _ _ (by omega), upd_ne _ _ hq]
theorem r_cast {a n : Nat} {i x : Int} (hd : decode d.2.1 pc = .ok (.castore, 1)) (ha : M.1[a]? = some (11, n)) (h0 : 0 ≤ i) (h1 : i < (n : Int)) (hc : 0 ≤ x ∧ x < 65536)
    (kk : WP k d S u Q (pc + 1) lv st (M.1, mUp M.2.1 a i x, M.2.2)) : WP k d S u Q pc lv (.inl x :: .inl i :: .inr (some a) :: st) M := by
  intro p l e R s m args below meth c D al0 n0 A QS C hS hret al H locs ls hag hn hW hst hlv hl
  have hx := C.1
  have hb := C.2.1
  have hts : ∀ w ∈ mTb, w.before args s = true := fun w hw => mB2 (C.2.2.2.2.2.1 w hw) hw
  have hown := C.2.2.2.2.1
  have hK := C.2.2.2.2.2.2.2.1
  obtain ⟨hP, hD, hVS, hok, hlen⟩ := hW
  have he : (mWs D al M)[a]? = some (al a, mE D al M 11 n a) := mWs_get ha
  rw [mE_int (by decide) (by decide)] at he
  have hi : mI i := ok_hd (ok_tl hst)
  have hxv : mI x := ok_hd hst
  have e7 : vp_nar .char (Int32.ofInt x) = Int32.ofInt x := by
    rw [vp_nar_char]
    exact nar_char hc.1 hc.2
  refine va_cast hx hb hK hP hD hVS a 1 he rfl (mI_in hi h0 h1) hd (fun H1 locs1 hP1 hD1 hS1 => ?_)
  refine kk p l e R s m args below meth c D al0 n0 A QS C hS hret al H1 locs1 ls hag hn (mWld_set (M' := (M.1, mUp M.2.1 a i x, M.2.2)) ha rfl (fun b hb2 => ⟨mUp_ne _ _ _ hb2, rfl⟩) ?_ (okM_upI hok hxv a i) hlen hP1 hD1 hS1) (ok_tl (ok_tl (ok_tl hst))) hlv hl
  show mE D al (M.1, mUp M.2.1 a i x, M.2.2) 11 n a = _
  rw [mE_int (by decide) (by decide)]
  congr 4
  funext q
  rw [mI_nat hi]
  simp only [mUp_at, e7]
  by_cases hq : q = i.toNat
  · subst hq
    have e9 : ((i.toNat : Nat) : Int) = i := by omega
    rw [e9, fset_at, upd_at]
  · rw [fset_ne _ _ (by omega), upd_ne _ _ hq]
theorem r_aald12 {a n : Nat} {i : Int} (hd : decode d.2.1 pc = .ok (.aaload, 1)) (ha : M.1[a]? = some (12, n)) (h0 : 0 ≤ i) (h1 : i < (n : Int))
    (kk : WP k d S u Q (pc + 1) lv (.inr (M.2.2 a i) :: st) M) : WP k d S u Q pc lv (.inl i :: .inr (some a) :: st) M := by
  intro p l e R s m args below meth c D al0 n0 A QS C hS hret al H locs ls hag hn hW hst hlv hl
  have hx := C.1
  have hb := C.2.1
  have hts : ∀ w ∈ mTb, w.before args s = true := fun w hw => mB2 (C.2.2.2.2.2.1 w hw) hw
  have hown := C.2.2.2.2.1
  have hK := C.2.2.2.2.2.2.2.1
  obtain ⟨hP, hD, hVS, hok, hlen⟩ := hW
  have he : (mWs D al M)[a]? = some (al a, mE D al M 12 n a) := mWs_get ha
  rw [mE_ref (by decide)] at he
  have hi : mI i := ok_hd hst
  refine va_aldq hx hb hK hP a 2 he rfl (mI_in hi h0 h1) hd ?_
  have h9 := kk p l e R s m args below meth c D al0 n0 A QS C hS hret al H locs ls hag hn ⟨hP, hD, hVS, hok, hlen⟩ (ok_push (v := .inr (M.2.2 a i)) (hok a i).2 (ok_tl (ok_tl hst))) hlv hl
  rw [mI_nat hi]
  have e9 : ((i.toNat : Nat) : Int) = i := by omega
  rw [e9]
  exact h9
theorem r_aast12 {a n x : Nat} {i : Int} (hd : decode d.2.1 pc = .ok (.aastore, 1)) (ha : M.1[a]? = some (12, n)) (h0 : 0 ≤ i) (h1 : i < (n : Int)) (hxc : M.1[x]? = some (0, mNx 0))
    (kk : WP k d S u Q (pc + 1) lv st (M.1, M.2.1, mUp M.2.2 a i (some x))) : WP k d S u Q pc lv (.inr (some x) :: .inl i :: .inr (some a) :: st) M := by
  intro p l e R s m args below meth c D al0 n0 A QS C hS hret al H locs ls hag hn hW hst hlv hl
  have hx := C.1
  have hb := C.2.1
  have hts : ∀ w ∈ mTb, w.before args s = true := fun w hw => mB2 (C.2.2.2.2.2.1 w hw) hw
  have hown := C.2.2.2.2.1
  have hK := C.2.2.2.2.2.2.2.1
  obtain ⟨hP, hD, hVS, hok, hlen⟩ := hW
  have he : (mWs D al M)[a]? = some (al a, mE D al M 12 n a) := mWs_get ha
  rw [mE_ref (by decide)] at he
  have hex : (mWs D al M)[x]? = some (al x, mE D al M 0 (mNx 0) x) := mWs_get hxc
  rw [mE_obj (by decide)] at hex
  have hi : mI i := ok_hd (ok_tl hst)
  have hxv : okR M.1.length (some x) := ok_hd hst
  refine va_astq hx hb hK hP hD hVS a 2 x 0 he rfl hex (mCl (by decide)) (mI_in hi h0 h1) hd (fun H1 locs1 hP1 hD1 hS1 => ?_)
  refine kk p l e R s m args below meth c D al0 n0 A QS C hS hret al H1 locs1 ls hag hn (mWld_set (M' := (M.1, M.2.1, mUp M.2.2 a i (some x))) ha rfl (fun b hb2 => ⟨rfl, mUp_ne _ _ _ hb2⟩) ?_ (okM_upR hok hxv a i) hlen hP1 hD1 hS1) (ok_tl (ok_tl (ok_tl hst))) hlv hl
  show mE D al (M.1, M.2.1, mUp M.2.2 a i (some x)) 12 n a = _
  rw [mE_ref (by decide)]
  congr 7
  funext q
  rw [mI_nat hi]
  simp only [mUp_at, va_up]
  by_cases hq : q = i.toNat
  · subst hq
    have e9 : ((i.toNat : Nat) : Int) = i := by omega
    rw [e9, fset_at, if_pos rfl]
    rfl
  · rw [fset_ne _ _ (by omega), if_neg hq]
theorem r_aald13 {a n : Nat} {i : Int} (hd : decode d.2.1 pc = .ok (.aaload, 1)) (ha : M.1[a]? = some (13, n)) (h0 : 0 ≤ i) (h1 : i < (n : Int))
    (kk : WP k d S u Q (pc + 1) lv (.inr (M.2.2 a i) :: st) M) : WP k d S u Q pc lv (.inl i :: .inr (some a) :: st) M := by
  intro p l e R s m args below meth c D al0 n0 A QS C hS hret al H locs ls hag hn hW hst hlv hl
  have hx := C.1
  have hb := C.2.1
  have hts : ∀ w ∈ mTb, w.before args s = true := fun w hw => mB2 (C.2.2.2.2.2.1 w hw) hw
  have hown := C.2.2.2.2.1
  have hK := C.2.2.2.2.2.2.2.1
  obtain ⟨hP, hD, hVS, hok, hlen⟩ := hW
  have he : (mWs D al M)[a]? = some (al a, mE D al M 13 n a) := mWs_get ha
  rw [mE_ref (by decide)] at he
  have hi : mI i := ok_hd hst
  refine va_aldq hx hb hK hP a 3 he rfl (mI_in hi h0 h1) hd ?_
  have h9 := kk p l e R s m args below meth c D al0 n0 A QS C hS hret al H locs ls hag hn ⟨hP, hD, hVS, hok, hlen⟩ (ok_push (v := .inr (M.2.2 a i)) (hok a i).2 (ok_tl (ok_tl hst))) hlv hl
  rw [mI_nat hi]
  have e9 : ((i.toNat : Nat) : Int) = i := by omega
  rw [e9]
  exact h9
theorem r_aast13 {a n x : Nat} {i : Int} (hd : decode d.2.1 pc = .ok (.aastore, 1)) (ha : M.1[a]? = some (13, n)) (h0 : 0 ≤ i) (h1 : i < (n : Int)) (hxc : M.1[x]? = some (2, mNx 2))
    (kk : WP k d S u Q (pc + 1) lv st (M.1, M.2.1, mUp M.2.2 a i (some x))) : WP k d S u Q pc lv (.inr (some x) :: .inl i :: .inr (some a) :: st) M := by
  intro p l e R s m args below meth c D al0 n0 A QS C hS hret al H locs ls hag hn hW hst hlv hl
  have hx := C.1
  have hb := C.2.1
  have hts : ∀ w ∈ mTb, w.before args s = true := fun w hw => mB2 (C.2.2.2.2.2.1 w hw) hw
  have hown := C.2.2.2.2.1
  have hK := C.2.2.2.2.2.2.2.1
  obtain ⟨hP, hD, hVS, hok, hlen⟩ := hW
  have he : (mWs D al M)[a]? = some (al a, mE D al M 13 n a) := mWs_get ha
  rw [mE_ref (by decide)] at he
  have hex : (mWs D al M)[x]? = some (al x, mE D al M 2 (mNx 2) x) := mWs_get hxc
  rw [mE_obj (by decide)] at hex
  have hi : mI i := ok_hd (ok_tl hst)
  have hxv : okR M.1.length (some x) := ok_hd hst
  refine va_astq hx hb hK hP hD hVS a 3 x 2 he rfl hex (mCl (by decide)) (mI_in hi h0 h1) hd (fun H1 locs1 hP1 hD1 hS1 => ?_)
  refine kk p l e R s m args below meth c D al0 n0 A QS C hS hret al H1 locs1 ls hag hn (mWld_set (M' := (M.1, M.2.1, mUp M.2.2 a i (some x))) ha rfl (fun b hb2 => ⟨rfl, mUp_ne _ _ _ hb2⟩) ?_ (okM_upR hok hxv a i) hlen hP1 hD1 hS1) (ok_tl (ok_tl (ok_tl hst))) hlv hl
  show mE D al (M.1, M.2.1, mUp M.2.2 a i (some x)) 13 n a = _
  rw [mE_ref (by decide)]
  congr 7
  funext q
  rw [mI_nat hi]
  simp only [mUp_at, va_up]
  by_cases hq : q = i.toNat
  · subst hq
    have e9 : ((i.toNat : Nat) : Int) = i := by omega
    rw [e9, fset_at, if_pos rfl]
    rfl
  · rw [fset_ne _ _ (by omega), if_neg hq]
end ROWS2
