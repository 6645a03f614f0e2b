/-! ===== new cells, texts, statics, the script, returns ===== -/
def mClr {β : Type} (F : Nat → Int → β) (a : Nat) (v : β) : Nat → Int → β := fun b => if b = a then fun _ => v else F b
def mNew (M : mM) (kd n : Nat) : mM := (M.1 ++ [(kd, n)], mClr M.2.1 M.1.length 0, mClr M.2.2 M.1.length none)
def mExtA (al : Nat → Nat) (n q : Nat) : Nat → Nat := fun a => if a = n then q else al a
theorem mDef {kd : Nat} (h : kd < 7) : ∀ j, j < mNx kd → defaultValue (mTy kd j) = if mRef kd j = true then .null else .int 0 := by
  match kd, h with
  | 0, _ => decide +kernel
  | 1, _ => decide +kernel
  | 2, _ => decide +kernel
  | 3, _ => decide +kernel
  | 4, _ => decide +kernel
  | 5, _ => decide +kernel
  | 6, _ => decide +kernel
theorem okR_le {n n' : Nat} (h : n ≤ n') {r : Option Nat} (hr : okR n r) : okR n' r := fun a ha => by
  rcases hr a ha with q | q
  · exact Or.inl (by omega)
  · exact Or.inr q
theorem okV_le {n n' : Nat} (h : n ≤ n') {v : mV} (hv : okV n v) : okV n' v := by
  cases v with
  | inl x => exact hv
  | inr r => exact okR_le h hv
theorem okM_new {M : mM} (h : okM M) (kd n : Nat) : okM (mNew M kd n) := by
  intro b j
  have hle : M.1.length ≤ (mNew M kd n).1.length := by simp [mNew]
  unfold mNew mClr
  dsimp only
  by_cases hb : b = M.1.length
  · rw [if_pos hb, if_pos hb]
    exact ⟨mI_0, fun a ha => by cases ha⟩
  · rw [if_neg hb, if_neg hb]
    exact ⟨(h b j).1, okR_le hle (h b j).2⟩
theorem mSts_congr {n : Nat} {al al' : Nat → Nat} (h : ∀ a, a < n ∨ 1000 ≤ a → al' a = al a) {st : List mV} (hst : ∀ v ∈ st, okV n v) : mSts al' st = mSts al st :=
  List.map_congr_left fun v hv => mc_v_congr h (hst v hv)
theorem mLvs_congr {n : Nat} {al al' : Nat → Nat} (h : ∀ a, a < n ∨ 1000 ≤ a → al' a = al a) {lv : List (Nat × mV)} (hlv : ∀ q ∈ lv, okV n q.2) : mLvs al' lv = mLvs al lv :=
  List.map_congr_left fun q hq => by rw [mc_v_congr h (hlv q hq)]
theorem mExtA_agr {al : Nat → Nat} {n q : Nat} (hn : n < 1000) : ∀ a, a < n ∨ 1000 ≤ a → mExtA al n q a = al a := fun a ha => by
  unfold mExtA
  rw [if_neg (by omega)]
/-- the world behind a new cell -/
theorem mWld_new {D : va_G} {al : Nat → Nat} {M : mM} {A : Nat → Prop} {H0 H1 : Heap} {locs1 : List Loc} {kd n q : Nat} {e : va_E} (hok : okM M) (hlen : M.1.length + 1 < 1000) (he : mE D (mExtA al M.1.length q) (mNew M kd n) kd n M.1.length = e)
    (hP : va_P D vwCl (mWs D al M ++ [(q, e)]) H1) (hD : va_D A (mWs D al M ++ [(q, e)])) (hS : va_S A H0 H1 locs1) : mWld D (mExtA al M.1.length q) (mNew M kd n) A H0 H1 locs1 := by
  have hs : mWs D al M ++ [(q, e)] = mWs D (mExtA al M.1.length q) (mNew M kd n) := by
    refine mWs_push (kn := (kd, n)) (by omega) hok rfl (fun b hb => ?_) he
    unfold mNew mClr
    dsimp only
    rw [if_neg (by omega), if_neg (by omega)]
    exact ⟨rfl, rfl⟩
  rw [hs] at hP hD
  exact ⟨hP, hD, hS, okM_new hok kd n, by simp [mNew]; omega⟩
theorem mAgr_ext {n0 n q : Nat} {al al0 : Nat → Nat} (h : mAgr n0 al al0) (hn : n0 ≤ n) (hl : n < 1000) : mAgr n0 (mExtA al n q) al0 := fun a ha => by
  rw [mExtA_agr hl a (by omega)]
  exact h a ha
theorem mTy_arr {D : va_G} {s : State} {cA : ClassId} {ty : FieldType} {i : Nat} {cB : ClassId} (hK : va_K D vwCl (mTys D) s) (hi : (mTys D)[i]? = some (cB, ty)) (hK2 : va_K D vwCl (mTys D ++ [(cA, ty)]) s) : cA = cB := by
  have h1 := (hK.2 i _ hi).2
  have h2 := (hK2.2 4 (cA, ty) rfl).2
  cases ty with
  | object C =>
    obtain ⟨_, _, -, -, -, q1⟩ := h1
    obtain ⟨_, _, -, -, -, q2⟩ := h2
    exact Option.some.inj (q2.symm.trans q1)
  | _ => exact Option.some.inj (h2.symm.trans h1)
theorem nb_int {N : Nat} (h : N < 1000) : N * componentBytes .int ≤ 536870912 := by
  have e : componentBytes .int = 4 := rfl
  rw [e]; omega
theorem nb_char {N : Nat} (h : N < 1000) : N * componentBytes .char ≤ 536870912 := by
  have e : componentBytes .char = 2 := rfl
  rw [e]; omega
theorem mCat (al : Nat → Nat) (st : List mV) : ((mSts al st).map fun v => v.category).sum = st.length := by
  induction st with
  | nil => rfl
  | cons v t ih =>
    show ((mc_v al v).category :: (mSts al t).map fun v => v.category).sum = t.length + 1
    rw [List.sum_cons, ih, mc_cat]; omega
theorem sLen_le : ∀ i, i < 9 → sLen.getD i 0 ≤ 10 := by decide +kernel
section ROWS3
variable {k : Nat} {d : mD} {S : Option (Nat × (Nat → Int))} {u : Nat × Nat} {Q : Option mV → mM → Prop} {pc : Nat} {lv : List (Nat × mV)} {st : List mV} {M : mM}
theorem r_new {kd idx : Nat} (hd : decode d.2.1 pc = .ok (.new idx, 3)) (hcl : Cond.classLink d.1.cls idx (mRx kd) ∈ mTb) (hins : Cond.instantiable (mRx kd) (mNx kd) ∈ mTb) (hini : Cond.initialized (mRx kd) ∈ mTb) (hk : kd < 7) (hsz : M.1.length + 1 < 1000) (hu1 : u.1 + 1 ≤ d.2.2.2.2.1) (hu2 : u.2 + mNx kd ≤ d.2.2.2.2.2)
    (kk : WP k d S (u.1 + 1, u.2 + mNx kd) Q (pc + 3) lv (.inr (some M.1.length) :: st) (mNew M kd (mNx kd))) : WP k d S u Q pc lv st M := by
  intro p l e R s m args below meth c D al0 n0 A QS C hS hret al H locs ls hag hn hW hst hlv hl
  have hx := C.1
  have hb := C.2.1
  have hts : ∀ w ∈ mTb, w.before args s = true := fun w hw => mB2 (C.2.2.2.2.2.1 w hw) hw
  have hown := C.2.2.2.2.1
  have hK := C.2.2.2.2.2.2.2.1
  have hA := C.2.2.2.2.2.2.2.2.2.1
  have hE := C.2.2.2.2.2.2.2.2.1
  obtain ⟨hP, hD, hVS, hok, hlen⟩ := hW
  have hR := C.2.2.2.2.2.2.2.2.2.2.2.2
  refine va_new (C := mRx kd) (T := mTx kd) (N := mNx kd) hx hb hts (mU hk) (mTy kd) (mTyOk hk) hown (hts _ hcl) (hts _ hins) (hts _ hini) hK hP hD hVS hA (mCl hk) (fs := (List.range (mNx kd)).map (fun j => if mRef kd j = true then .null else .int 0)) (fun j hj => ?_) (by omega) (by omega) hd (fun q H1 hP1 hD1 hS1 => ?_)
  · rw [mDef hk j hj]
    simp [vp_V, List.getD, hj]
  · have hW1 := mWld_new (kd := kd) (n := mNx kd) (q := q) hok hsz (by
      rw [mE_obj hk]
      congr 3
      funext j
      simp only [mFld, mNew, mClr, if_true]
      rfl) hP1 hD1 hS1
    have hc := mExtA_agr (al := al) (q := q) hlen
    have h9 := kk p l e R s m args below meth c D al0 n0 A QS C hS hret (mExtA al M.1.length q) H1 locs ls (mAgr_ext hag hn hlen) (by simp [mNew]; omega) hW1 (ok_push (v := .inr (some M.1.length)) (fun a ha => Or.inl (by cases ha; simp [mNew])) (fun v hv => okV_le (by simp [mNew]) (hst v hv))) (fun q hq => okV_le (by simp [mNew]) (hlv q hq)) (by rw [mLvs_congr hc hlv]; exact hl)
    have e9 : mSts (mExtA al M.1.length q) (.inr (some M.1.length) :: st) = .ref q :: mSts al st := by
      show mc_v _ _ :: mSts _ st = _
      rw [mSts_congr hc hst]
      simp [mc_v, mExtA, va_rf]
    rw [e9] at h9
    exact h9
theorem r_newI {n : Int} {N : Nat} (hd : decode d.2.1 pc = .ok (.newarray .int, 2)) (hw : Cond.arrayClass .int ∈ mTb) (hN : n = (N : Int)) (hN2 : N < 1000) (hsz : M.1.length + 1 < 1000) (hu1 : u.1 + 1 ≤ d.2.2.2.2.1) (hu2 : u.2 + N ≤ d.2.2.2.2.2)
    (kk : WP k d S (u.1 + 1, u.2 + N) Q (pc + 2) lv (.inr (some M.1.length) :: st) (mNew M 10 N)) : WP k d S u Q pc lv (.inl n :: st) M := by
  intro p l e R s m args below meth c D al0 n0 A QS C hS hret al H locs ls hag hn hW hst hlv hl
  have hx := C.1
  have hb := C.2.1
  have hts : ∀ w ∈ mTb, w.before args s = true := fun w hw => mB2 (C.2.2.2.2.2.1 w hw) hw
  have hown := C.2.2.2.2.1
  have hK := C.2.2.2.2.2.2.2.1
  have hA := C.2.2.2.2.2.2.2.2.2.1
  have hE := C.2.2.2.2.2.2.2.2.1
  obtain ⟨hP, hD, hVS, hok, hlen⟩ := hW
  have hR := C.2.2.2.2.2.2.2.2.2.2.2.2
  have hi : mI n := ok_hd hst
  have hst := ok_tl hst
  refine va_newa (atype := .int) hx hb (hts _ hw) (ty := .int) rfl hK hP hD hVS hA (a0 := (N, .inl (fun _ => 0))) (fun cA => rfl) (by intro h; have := (mI_lt hi mI_0).mp h; omega) (by rw [mI_nat hi, hN]; omega) (nb_int hN2) (by omega) (by omega) hd (fun q cA H1 hK1 hP1 hD1 hS1 => ?_)
  have hcA : cA = D.1 10 := mTy_arr (i := 0) hK rfl hK1
  subst hcA
  have hW1 := mWld_new (kd := 10) (n := N) (q := q) hok hsz (by
      rw [mE_int (by decide) (by decide)]
      simp only [mNew, mClr, if_true]
      rfl) hP1 hD1 hS1
  have hc := mExtA_agr (al := al) (q := q) hlen
  have h9 := kk p l e R s m args below meth c D al0 n0 A QS C hS hret (mExtA al M.1.length q) H1 locs ls (mAgr_ext hag hn hlen) (by simp [mNew]; omega) hW1 (ok_push (v := .inr (some M.1.length)) (fun a ha => Or.inl (by cases ha; simp [mNew])) (fun v hv => okV_le (by simp [mNew]) (hst v hv))) (fun q hq => okV_le (by simp [mNew]) (hlv q hq)) (by rw [mLvs_congr hc hlv]; exact hl)
  have e9 : mSts (mExtA al M.1.length q) (.inr (some M.1.length) :: st) = .ref q :: mSts al st := by
    show mc_v _ _ :: mSts _ st = _
    rw [mSts_congr hc hst]
    simp [mc_v, mExtA, va_rf]
  rw [e9] at h9
  exact h9
theorem r_newC {n : Int} {N : Nat} (hd : decode d.2.1 pc = .ok (.newarray .char, 2)) (hw : Cond.arrayClass .char ∈ mTb) (hN : n = (N : Int)) (hN2 : N < 1000) (hsz : M.1.length + 1 < 1000) (hu1 : u.1 + 1 ≤ d.2.2.2.2.1) (hu2 : u.2 + N ≤ d.2.2.2.2.2)
    (kk : WP k d S (u.1 + 1, u.2 + N) Q (pc + 2) lv (.inr (some M.1.length) :: st) (mNew M 11 N)) : WP k d S u Q pc lv (.inl n :: st) M := by
  intro p l e R s m args below meth c D al0 n0 A QS C hS hret al H locs ls hag hn hW hst hlv hl
  have hx := C.1
  have hb := C.2.1
  have hts : ∀ w ∈ mTb, w.before args s = true := fun w hw => mB2 (C.2.2.2.2.2.1 w hw) hw
  have hown := C.2.2.2.2.1
  have hK := C.2.2.2.2.2.2.2.1
  have hA := C.2.2.2.2.2.2.2.2.2.1
  have hE := C.2.2.2.2.2.2.2.2.1
  obtain ⟨hP, hD, hVS, hok, hlen⟩ := hW
  have hR := C.2.2.2.2.2.2.2.2.2.2.2.2
  have hi : mI n := ok_hd hst
  have hst := ok_tl hst
  refine va_newa (atype := .char) hx hb (hts _ hw) (ty := .char) rfl hK hP hD hVS hA (a0 := (N, .inl (fun _ => 0))) (fun cA => rfl) (by intro h; have := (mI_lt hi mI_0).mp h; omega) (by rw [mI_nat hi, hN]; omega) (nb_char hN2) (by omega) (by omega) hd (fun q cA H1 hK1 hP1 hD1 hS1 => ?_)
  have hcA : cA = D.1 11 := mTy_arr (i := 1) hK rfl hK1
  subst hcA
  have hW1 := mWld_new (kd := 11) (n := N) (q := q) hok hsz (by
      rw [mE_int (by decide) (by decide)]
      simp only [mNew, mClr, if_true]
      rfl) hP1 hD1 hS1
  have hc := mExtA_agr (al := al) (q := q) hlen
  have h9 := kk p l e R s m args below meth c D al0 n0 A QS C hS hret (mExtA al M.1.length q) H1 locs ls (mAgr_ext hag hn hlen) (by simp [mNew]; omega) hW1 (ok_push (v := .inr (some M.1.length)) (fun a ha => Or.inl (by cases ha; simp [mNew])) (fun v hv => okV_le (by simp [mNew]) (hst v hv))) (fun q hq => okV_le (by simp [mNew]) (hlv q hq)) (by rw [mLvs_congr hc hlv]; exact hl)
  have e9 : mSts (mExtA al M.1.length q) (.inr (some M.1.length) :: st) = .ref q :: mSts al st := by
    show mc_v _ _ :: mSts _ st = _
    rw [mSts_congr hc hst]
    simp [mc_v, mExtA, va_rf]
  rw [e9] at h9
  exact h9
theorem r_newN {n : Int} {N idx : Nat} (hd : decode d.2.1 pc = .ok (.anewarray idx, 3)) (hcl : Cond.classLink d.1.cls idx RX0 ∈ mTb) (hN : n = (N : Int)) (hN2 : N < 1000) (hsz : M.1.length + 1 < 1000) (hu1 : u.1 + 1 ≤ d.2.2.2.2.1) (hu2 : u.2 + N ≤ d.2.2.2.2.2)
    (kk : WP k d S (u.1 + 1, u.2 + N) Q (pc + 3) lv (.inr (some M.1.length) :: st) (mNew M 12 N)) : WP k d S u Q pc lv (.inl n :: st) M := by
  intro p l e R s m args below meth c D al0 n0 A QS C hS hret al H locs ls hag hn hW hst hlv hl
  have hx := C.1
  have hb := C.2.1
  have hts : ∀ w ∈ mTb, w.before args s = true := fun w hw => mB2 (C.2.2.2.2.2.1 w hw) hw
  have hown := C.2.2.2.2.1
  have hK := C.2.2.2.2.2.2.2.1
  have hA := C.2.2.2.2.2.2.2.2.2.1
  have hE := C.2.2.2.2.2.2.2.2.1
  obtain ⟨hP, hD, hVS, hok, hlen⟩ := hW
  have hR := C.2.2.2.2.2.2.2.2.2.2.2.2
  have hi : mI n := ok_hd hst
  have hst := ok_tl hst
  have hao : va_AO RX0 s := hE.2.2.2.2.2.1
  refine va_newq hx hb hown (hts _ hcl) hao hK hP hD hVS hA (by intro h; have := (mI_lt hi mI_0).mp h; omega) (N' := N) (by rw [mI_nat hi, hN]; omega) (by omega) (by omega) (by omega) hd (fun q cA H1 hK1 hP1 hD1 hS1 => ?_)
  have hcA : cA = D.1 12 := mTy_arr (i := 2) hK rfl hK1
  subst hcA
  have hW1 := mWld_new (kd := 12) (n := N) (q := q) hok hsz (by
      rw [mE_ref (by decide)]
      simp only [mNew, mClr, if_true]
      rfl) hP1 hD1 hS1
  have hc := mExtA_agr (al := al) (q := q) hlen
  have h9 := kk p l e R s m args below meth c D al0 n0 A QS C hS hret (mExtA al M.1.length q) H1 locs ls (mAgr_ext hag hn hlen) (by simp [mNew]; omega) hW1 (ok_push (v := .inr (some M.1.length)) (fun a ha => Or.inl (by cases ha; simp [mNew])) (fun v hv => okV_le (by simp [mNew]) (hst v hv))) (fun q hq => okV_le (by simp [mNew]) (hlv q hq)) (by rw [mLvs_congr hc hlv]; exact hl)
  have e9 : mSts (mExtA al M.1.length q) (.inr (some M.1.length) :: st) = .ref q :: mSts al st := by
    show mc_v _ _ :: mSts _ st = _
    rw [mSts_congr hc hst]
    simp [mc_v, mExtA, va_rf]
  rw [e9] at h9
  exact h9
theorem r_newR {n : Int} {N idx : Nat} (hd : decode d.2.1 pc = .ok (.anewarray idx, 3)) (hcl : Cond.classLink d.1.cls idx RX2 ∈ mTb) (hN : n = (N : Int)) (hN2 : N < 1000) (hsz : M.1.length + 1 < 1000) (hu1 : u.1 + 1 ≤ d.2.2.2.2.1) (hu2 : u.2 + N ≤ d.2.2.2.2.2)
    (kk : WP k d S (u.1 + 1, u.2 + N) Q (pc + 3) lv (.inr (some M.1.length) :: st) (mNew M 13 N)) : WP k d S u Q pc lv (.inl n :: st) M := by
  intro p l e R s m args below meth c D al0 n0 A QS C hS hret al H locs ls hag hn hW hst hlv hl
  have hx := C.1
  have hb := C.2.1
  have hts : ∀ w ∈ mTb, w.before args s = true := fun w hw => mB2 (C.2.2.2.2.2.1 w hw) hw
  have hown := C.2.2.2.2.1
  have hK := C.2.2.2.2.2.2.2.1
  have hA := C.2.2.2.2.2.2.2.2.2.1
  have hE := C.2.2.2.2.2.2.2.2.1
  obtain ⟨hP, hD, hVS, hok, hlen⟩ := hW
  have hR := C.2.2.2.2.2.2.2.2.2.2.2.2
  have hi : mI n := ok_hd hst
  have hst := ok_tl hst
  have hao : va_AO RX2 s := hE.2.2.2.2.2.2
  refine va_newq hx hb hown (hts _ hcl) hao hK hP hD hVS hA (by intro h; have := (mI_lt hi mI_0).mp h; omega) (N' := N) (by rw [mI_nat hi, hN]; omega) (by omega) (by omega) (by omega) hd (fun q cA H1 hK1 hP1 hD1 hS1 => ?_)
  have hcA : cA = D.1 13 := mTy_arr (i := 3) hK rfl hK1
  subst hcA
  have hW1 := mWld_new (kd := 13) (n := N) (q := q) hok hsz (by
      rw [mE_ref (by decide)]
      simp only [mNew, mClr, if_true]
      rfl) hP1 hD1 hS1
  have hc := mExtA_agr (al := al) (q := q) hlen
  have h9 := kk p l e R s m args below meth c D al0 n0 A QS C hS hret (mExtA al M.1.length q) H1 locs ls (mAgr_ext hag hn hlen) (by simp [mNew]; omega) hW1 (ok_push (v := .inr (some M.1.length)) (fun a ha => Or.inl (by cases ha; simp [mNew])) (fun v hv => okV_le (by simp [mNew]) (hst v hv))) (fun q hq => okV_le (by simp [mNew]) (hlv q hq)) (by rw [mLvs_congr hc hlv]; exact hl)
  have e9 : mSts (mExtA al M.1.length q) (.inr (some M.1.length) :: st) = .ref q :: mSts al st := by
    show mc_v _ _ :: mSts _ st = _
    rw [mSts_congr hc hst]
    simp [mc_v, mExtA, va_rf]
  rw [e9] at h9
  exact h9
theorem r_obj {a idx : Nat} (hd : decode d.2.1 pc = .ok (.invokespecial idx, 3)) (hl0 : Cond.methodLink d.1.cls idx objectInit ∈ mTb) (hin : Cond.instanceMethod objectInit ∈ mTb) (hcode : Cond.code objectInit ⟨#[0xb1]⟩ 1 none ∈ mTb) (hk1 : 1 ≤ k) (hr8 : st.length ≤ 8)
    (kk : WP k d S u Q (pc + 3) lv st M) : WP k d S u Q pc lv (.inr (some a) :: st) M := by
  intro p l e R s m args below meth c D al0 n0 A QS C hS hret al H locs ls hag hn hW hst hlv hl
  have hx := C.1
  have hb := C.2.1
  have hts : ∀ w ∈ mTb, w.before args s = true := fun w hw => mB2 (C.2.2.2.2.2.1 w hw) hw
  have hown := C.2.2.2.2.1
  have hK := C.2.2.2.2.2.2.2.1
  have hA := C.2.2.2.2.2.2.2.2.2.1
  have hE := C.2.2.2.2.2.2.2.2.1
  obtain ⟨hP, hD, hVS, hok, hlen⟩ := hW
  have hR := C.2.2.2.2.2.2.2.2.2.2
  have hst := ok_tl hst
  have hcat := mCat al st
  refine W.objInit hx hb hown (hts _ hl0) (hts _ hin) (hts _ hcode) rfl (hl.1.trans C.2.2.2.1.symm) rfl hd (by omega) (by show 2 * 0 + ((mSts al st).map fun v => v.category).sum + 12 ≤ _; rw [hcat]; omega) ?_
  exact kk p l e R s m args below meth c D al0 n0 A QS C hS hret al H locs ls hag hn ⟨hP, hD, hVS, hok, hlen⟩ hst hlv hl
theorem r_ldcS {i : Nat} (hd : decode d.2.1 pc = .ok (.ldc (sIdx.getD i 0), 2)) (hi : i < 9) (hc : d.1.cls = RX3)
    (kk : WP k d S u Q (pc + 2) lv (.inr (some (1000 + i)) :: st) M) : WP k d S u Q pc lv st M := by
  intro p l e R s m args below meth c D al0 n0 A QS C hS hret al H locs ls hag hn hW hst hlv hl
  have hx := C.1
  have hb := C.2.1
  have hts : ∀ w ∈ mTb, w.before args s = true := fun w hw => mB2 (C.2.2.2.2.2.1 w hw) hw
  have hown := C.2.2.2.2.1
  have hK := C.2.2.2.2.2.2.2.1
  have hA := C.2.2.2.2.2.2.2.2.2.1
  have hE := C.2.2.2.2.2.2.2.2.1
  obtain ⟨hP, hD, hVS, hok, hlen⟩ := hW
  rw [hc] at hown
  refine va_ldcS hx hb hown (hE.2.1 i hi) hd ?_
  have h9 := kk p l e R s m args below meth c D al0 n0 A QS C hS hret al H locs ls hag hn ⟨hP, hD, hVS, hok, hlen⟩ (ok_push (v := .inr (some (1000 + i))) (fun a ha => Or.inr (by cases ha; omega)) hst) hlv hl
  have e9 : al (1000 + i) = al0 (1000 + i) := hag _ (Or.inr (by omega))
  simp only [mSts, List.map, mc_v, Option.map, va_rf, e9] at h9
  exact h9
theorem r_sVal {i idx : Nat} (hd : decode d.2.1 pc = .ok (.getfield idx, 3)) (hi : i < 9) (hw : Cond.fieldLink d.1.cls idx "java/lang/String" "value" "[B" ∈ mTb)
    (kk : WP k d S u Q (pc + 3) lv (.inr (some (1100 + i)) :: st) M) : WP k d S u Q pc lv (.inr (some (1000 + i)) :: st) M := by
  intro p l e R s m args below meth c D al0 n0 A QS C hS hret al H locs ls hag hn hW hst hlv hl
  have hx := C.1
  have hb := C.2.1
  have hts : ∀ w ∈ mTb, w.before args s = true := fun w hw => mB2 (C.2.2.2.2.2.1 w hw) hw
  have hown := C.2.2.2.2.1
  have hK := C.2.2.2.2.2.2.2.1
  have hA := C.2.2.2.2.2.2.2.2.2.1
  have hE := C.2.2.2.2.2.2.2.2.1
  obtain ⟨hP, hD, hVS, hok, hlen⟩ := hW
  have hst := ok_tl hst
  have e8 : al (1000 + i) = al0 (1000 + i) := hag _ (Or.inr (by omega))
  have e9 : al (1100 + i) = al0 (1100 + i) := hag _ (Or.inr (by omega))
  show W p l e R s m args below meth c H locs u.1 u.2 QS (F0 m pc ls (.ref (al (1000 + i)) :: mSts al st))
  rw [e8]
  refine vk_getf hx hb (hE.2.2.1.1 i hi).2.2.1 hVS hown (hts _ hw) (fun x h => h) hd ?_
  have h9 := kk p l e R s m args below meth c D al0 n0 A QS C hS hret al H locs ls hag hn ⟨hP, hD, hVS, hok, hlen⟩ (ok_push (v := .inr (some (1100 + i))) (fun a ha => Or.inr (by cases ha; omega)) hst) hlv hl
  simp only [mSts, List.map, mc_v, Option.map, va_rf, e9] at h9
  exact h9
theorem r_sCod {i idx : Nat} (hd : decode d.2.1 pc = .ok (.getfield idx, 3)) (hi : i < 9) (hw : Cond.fieldLink d.1.cls idx "java/lang/String" "coder" "B" ∈ mTb)
    (kk : WP k d S u Q (pc + 3) lv (.inl 0 :: st) M) : WP k d S u Q pc lv (.inr (some (1000 + i)) :: st) M := by
  intro p l e R s m args below meth c D al0 n0 A QS C hS hret al H locs ls hag hn hW hst hlv hl
  have hx := C.1
  have hb := C.2.1
  have hts : ∀ w ∈ mTb, w.before args s = true := fun w hw => mB2 (C.2.2.2.2.2.1 w hw) hw
  have hown := C.2.2.2.2.1
  have hK := C.2.2.2.2.2.2.2.1
  have hA := C.2.2.2.2.2.2.2.2.2.1
  have hE := C.2.2.2.2.2.2.2.2.1
  obtain ⟨hP, hD, hVS, hok, hlen⟩ := hW
  have hst := ok_tl hst
  have e8 : al (1000 + i) = al0 (1000 + i) := hag _ (Or.inr (by omega))
  show W p l e R s m args below meth c H locs u.1 u.2 QS (F0 m pc ls (.ref (al (1000 + i)) :: mSts al st))
  rw [e8]
  refine vk_getf hx hb (hE.2.2.1.1 i hi).2.1 hVS hown (hts _ hw) (fun x h => h) hd ?_
  exact kk p l e R s m args below meth c D al0 n0 A QS C hS hret al H locs ls hag hn ⟨hP, hD, hVS, hok, hlen⟩ (ok_push (v := .inl 0) mI_0 hst) hlv hl
theorem r_sLen {i : Nat} (hd : decode d.2.1 pc = .ok (.arraylength, 1)) (hi : i < 9)
    (kk : WP k d S u Q (pc + 1) lv (.inl (sLen.getD i 0 : Nat) :: st) M) : WP k d S u Q pc lv (.inr (some (1100 + i)) :: st) M := by
  intro p l e R s m args below meth c D al0 n0 A QS C hS hret al H locs ls hag hn hW hst hlv hl
  have hx := C.1
  have hb := C.2.1
  have hts : ∀ w ∈ mTb, w.before args s = true := fun w hw => mB2 (C.2.2.2.2.2.1 w hw) hw
  have hown := C.2.2.2.2.1
  have hK := C.2.2.2.2.2.2.2.1
  have hA := C.2.2.2.2.2.2.2.2.2.1
  have hE := C.2.2.2.2.2.2.2.2.1
  obtain ⟨hP, hD, hVS, hok, hlen⟩ := hW
  have hst := ok_tl hst
  have e8 : al (1100 + i) = al0 (1100 + i) := hag _ (Or.inr (by omega))
  show W p l e R s m args below meth c H locs u.1 u.2 QS (F0 m pc ls (.ref (al (1100 + i)) :: mSts al st))
  rw [e8]
  refine va_tlen hx hb (hE.2.2.1.1 i hi).2.2.2 hVS (v := Int32.ofInt (sLen.getD i 0 : Nat)) (Int32.ofInt_eq_ofNat.symm) hd ?_
  exact kk p l e R s m args below meth c D al0 n0 A QS C hS hret al H locs ls hag hn ⟨hP, hD, hVS, hok, hlen⟩ (ok_push (v := .inl (sLen.getD i 0 : Nat)) (by have := sLen_le i hi; show mI _; unfold mI; omega) hst) hlv hl
theorem sByt_rng : ∀ i, i < 9 → ∀ j, j < sLen.getD i 0 → 0 ≤ ((sByt.getD i []).getD j 0).toInt ∧ ((sByt.getD i []).getD j 0).toInt < 128 := by decide +kernel
theorem r_sByt {i : Nat} {j : Int} (hd : decode d.2.1 pc = .ok (.baload, 1)) (hi : i < 9) (h0 : 0 ≤ j) (h1 : j < (sLen.getD i 0 : Nat))
    (kk : WP k d S u Q (pc + 1) lv (.inl ((sByt.getD i []).getD j.toNat 0).toInt :: st) M) : WP k d S u Q pc lv (.inl j :: .inr (some (1100 + i)) :: st) M := by
  intro p l e R s m args below meth c D al0 n0 A QS C hS hret al H locs ls hag hn hW hst hlv hl
  have hx := C.1
  have hb := C.2.1
  have hts : ∀ w ∈ mTb, w.before args s = true := fun w hw => mB2 (C.2.2.2.2.2.1 w hw) hw
  have hown := C.2.2.2.2.1
  have hK := C.2.2.2.2.2.2.2.1
  have hA := C.2.2.2.2.2.2.2.2.2.1
  have hE := C.2.2.2.2.2.2.2.2.1
  obtain ⟨hP, hD, hVS, hok, hlen⟩ := hW
  have hj : mI j := ok_hd hst
  have hst := ok_tl (ok_tl hst)
  have e8 : al (1100 + i) = al0 (1100 + i) := hag _ (Or.inr (by omega))
  show W p l e R s m args below meth c H locs u.1 u.2 QS (F0 m pc ls (.int (Int32.ofInt j) :: .ref (al (1100 + i)) :: mSts al st))
  rw [e8]
  refine va_tb hx hb (hE.2.2.1.1 i hi).2.2.2 hVS (mI_in hj h0 h1) (by rw [mI_nat hj]) hd ?_
  have h9 := kk p l e R s m args below meth c D al0 n0 A QS C hS hret al H locs ls hag hn ⟨hP, hD, hVS, hok, hlen⟩ (ok_push (v := .inl ((sByt.getD i []).getD j.toNat 0).toInt) (mI_of _) hst) hlv hl
  simp only [mSts, List.map, mc_v, mI_ofInt] at h9
  exact h9
theorem r_gsC {idx : Nat} (hd : decode d.2.1 pc = .ok (.getstatic idx, 3)) (hw : Cond.fieldLink d.1.cls idx "java/lang/String" "COMPACT_STRINGS" "Z" ∈ mTb)
    (kk : WP k d S u Q (pc + 3) lv (.inl 1 :: st) M) : WP k d S u Q pc lv st M := by
  intro p l e R s m args below meth c D al0 n0 A QS C hS hret al H locs ls hag hn hW hst hlv hl
  have hx := C.1
  have hb := C.2.1
  have hts : ∀ w ∈ mTb, w.before args s = true := fun w hw => mB2 (C.2.2.2.2.2.1 w hw) hw
  have hown := C.2.2.2.2.1
  have hK := C.2.2.2.2.2.2.2.1
  have hA := C.2.2.2.2.2.2.2.2.2.1
  have hE := C.2.2.2.2.2.2.2.2.1
  obtain ⟨hP, hD, hVS, hok, hlen⟩ := hW
  exact va_gets hx hb hE.2.2.2.1 hVS hown (hts _ hw) (fun x h => h) hd (kk p l e R s m args below meth c D al0 n0 A QS C hS hret al H locs ls hag hn ⟨hP, hD, hVS, hok, hlen⟩ (ok_push (v := .inl 1) (show mI 1 by unfold mI; decide) hst) hlv hl)
theorem r_gsF {idx : Nat} (hd : decode d.2.1 pc = .ok (.getstatic idx, 3)) (hw : Cond.fieldLink d.1.cls idx "jdk/internal/util/Preconditions" "SIOOBE_FORMATTER" "Ljava/util/function/BiFunction;" ∈ mTb)
    (kk : ∀ r : Option Nat, WP k d S u Q (pc + 3) lv (.inr r :: st) M) : WP k d S u Q pc lv st M := by
  intro p l e R s m args below meth c D al0 n0 A QS C hS hret al H locs ls hag hn hW hst hlv hl
  have hx := C.1
  have hb := C.2.1
  have hts : ∀ w ∈ mTb, w.before args s = true := fun w hw => mB2 (C.2.2.2.2.2.1 w hw) hw
  have hown := C.2.2.2.2.1
  have hK := C.2.2.2.2.2.2.2.1
  have hA := C.2.2.2.2.2.2.2.2.2.1
  have hE := C.2.2.2.2.2.2.2.2.1
  obtain ⟨hP, hD, hVS, hok, hlen⟩ := hW
  rcases hE.2.2.2.2.1 with hF | hF
  · refine va_gets hx hb hF hVS hown (hts _ hw) (fun x h => h) hd ?_
    have h9 := kk none p l e R s m args below meth c D al0 n0 A QS C hS hret al H locs ls hag hn ⟨hP, hD, hVS, hok, hlen⟩ (ok_push (v := .inr none) (fun a ha => by cases ha) hst) hlv hl
    simp only [mSts, List.map, mc_v, Option.map, va_rf] at h9
    exact h9
  · refine va_gets hx hb hF hVS hown (hts _ hw) (fun x h => h) hd ?_
    have h9 := kk (some 1200) p l e R s m args below meth c D al0 n0 A QS C hS hret al H locs ls hag hn ⟨hP, hD, hVS, hok, hlen⟩ (ok_push (v := .inr (some 1200)) (fun a ha => Or.inr (by cases ha; omega)) hst) hlv hl
    have e9 : al 1200 = al0 1200 := hag _ (Or.inr (by omega))
    simp only [mSts, List.map, mc_v, Option.map, va_rf, e9] at h9
    exact h9
theorem r_scrLen {L : Nat} {xs : Nat → Int} (hL : L < 2147483648) (hd : decode d.2.1 pc = .ok (.arraylength, 1))
    (kk : WP k d (some (L, xs)) u Q (pc + 1) lv (.inl (L : Int) :: st) M) : WP k d (some (L, xs)) u Q pc lv (.inr (some 2000) :: st) M := by
  intro p l e R s m args below meth c D al0 n0 A QS C hS hret al H locs ls hag hn hW hst hlv hl
  have hx := C.1
  have hb := C.2.1
  have hts : ∀ w ∈ mTb, w.before args s = true := fun w hw => mB2 (C.2.2.2.2.2.1 w hw) hw
  have hown := C.2.2.2.2.1
  have hK := C.2.2.2.2.2.2.2.1
  have hA := C.2.2.2.2.2.2.2.2.2.1
  have hE := C.2.2.2.2.2.2.2.2.1
  obtain ⟨hP, hD, hVS, hok, hlen⟩ := hW
  have hst := ok_tl hst
  have e8 : al 2000 = al0 2000 := hag _ (Or.inr (by omega))
  show W p l e R s m args below meth c H locs u.1 u.2 QS (F0 m pc ls (.ref (al 2000) :: mSts al st))
  rw [e8]
  refine va_slen hx hb hS.1 hS.2.1 hS.2.2.1 hVS hd ?_
  have h9 := kk p l e R s m args below meth c D al0 n0 A QS C hS hret al H locs ls hag hn ⟨hP, hD, hVS, hok, hlen⟩ (ok_push (v := .inl (L : Int)) (by show mI _; unfold mI; omega) hst) hlv hl
  simp only [mSts, List.map, mc_v, Int32.ofInt_eq_ofNat] at h9
  exact h9
theorem r_scrAt {L : Nat} {xs : Nat → Int} {i : Int} (hd : decode d.2.1 pc = .ok (.iaload, 1)) (h0 : 0 ≤ i) (h1 : i < (L : Int))
    (kk : WP k d (some (L, xs)) u Q (pc + 1) lv (.inl (xs i.toNat) :: st) M) : WP k d (some (L, xs)) u Q pc lv (.inl i :: .inr (some 2000) :: st) M := by
  intro p l e R s m args below meth c D al0 n0 A QS C hS hret al H locs ls hag hn hW hst hlv hl
  have hx := C.1
  have hb := C.2.1
  have hts : ∀ w ∈ mTb, w.before args s = true := fun w hw => mB2 (C.2.2.2.2.2.1 w hw) hw
  have hown := C.2.2.2.2.1
  have hK := C.2.2.2.2.2.2.2.1
  have hA := C.2.2.2.2.2.2.2.2.2.1
  have hE := C.2.2.2.2.2.2.2.2.1
  obtain ⟨hP, hD, hVS, hok, hlen⟩ := hW
  have hi : mI i := ok_hd hst
  have hst := ok_tl (ok_tl hst)
  have e8 : al 2000 = al0 2000 := hag _ (Or.inr (by omega))
  show W p l e R s m args below meth c H locs u.1 u.2 QS (F0 m pc ls (.int (Int32.ofInt i) :: .ref (al 2000) :: mSts al st))
  rw [e8]
  refine va_sld hx hb hS.1 hS.2.1 hS.2.2.1 hVS (mI_in hi h0 h1) hd ?_
  rw [mI_nat hi]
  exact kk p l e R s m args below meth c D al0 n0 A QS C hS hret al H locs ls hag hn ⟨hP, hD, hVS, hok, hlen⟩ (ok_push (v := .inl (xs i.toNat)) (hS.2.2.2 _) hst) hlv hl
theorem r_ret (hd : decode d.2.1 pc = .ok (.return_, 1)) (hr : d.2.2.2.1 = none) (hQ : Q none M) (hu1 : u.1 ≤ d.2.2.2.2.1) (hu2 : u.2 ≤ d.2.2.2.2.2) : WP k d S u Q pc lv [] M := by
  intro p l e R s m args below meth c D al0 n0 A QS C hS hret al H locs ls hag hn hW hst hlv hl
  have hx := C.1
  have hb := C.2.1
  have hts : ∀ w ∈ mTb, w.before args s = true := fun w hw => mB2 (C.2.2.2.2.2.1 w hw) hw
  have hown := C.2.2.2.2.1
  have hK := C.2.2.2.2.2.2.2.1
  have hA := C.2.2.2.2.2.2.2.2.2.1
  have hE := C.2.2.2.2.2.2.2.2.1
  obtain ⟨hP, hD, hVS, hok, hlen⟩ := hW
  exact hret none M al H locs u.1 u.2 ls pc hQ hag hn ⟨hP, hD, hVS, hok, hlen⟩ (fun v hv => by cases hv) hu1 hu2 ⟨hd, hr⟩
theorem r_iret {v : Int} (hd : decode d.2.1 pc = .ok (.ireturn, 1)) (hr : d.2.2.2.1 = some .int) (hQ : Q (some (.inl v)) M) (hu1 : u.1 ≤ d.2.2.2.2.1) (hu2 : u.2 ≤ d.2.2.2.2.2) : WP k d S u Q pc lv [.inl v] M := by
  intro p l e R s m args below meth c D al0 n0 A QS C hS hret al H locs ls hag hn hW hst hlv hl
  have hx := C.1
  have hb := C.2.1
  have hts : ∀ w ∈ mTb, w.before args s = true := fun w hw => mB2 (C.2.2.2.2.2.1 w hw) hw
  have hown := C.2.2.2.2.1
  have hK := C.2.2.2.2.2.2.2.1
  have hA := C.2.2.2.2.2.2.2.2.2.1
  have hE := C.2.2.2.2.2.2.2.2.1
  obtain ⟨hP, hD, hVS, hok, hlen⟩ := hW
  exact hret (some (.inl v)) M al H locs u.1 u.2 ls pc hQ hag hn ⟨hP, hD, hVS, hok, hlen⟩ (fun v hv => by cases hv; exact ok_hd hst) hu1 hu2 ⟨hd, _, hr, rfl⟩
theorem r_zret {v : Int} (hd : decode d.2.1 pc = .ok (.ireturn, 1)) (hr : d.2.2.2.1 = some .boolean) (hv : v = 0 ∨ v = 1) (hQ : Q (some (.inl v)) M) (hu1 : u.1 ≤ d.2.2.2.2.1) (hu2 : u.2 ≤ d.2.2.2.2.2) : WP k d S u Q pc lv [.inl v] M := by
  intro p l e R s m args below meth c D al0 n0 A QS C hS hret al H locs ls hag hn hW hst hlv hl
  have hx := C.1
  have hb := C.2.1
  have hts : ∀ w ∈ mTb, w.before args s = true := fun w hw => mB2 (C.2.2.2.2.2.1 w hw) hw
  have hown := C.2.2.2.2.1
  have hK := C.2.2.2.2.2.2.2.1
  have hA := C.2.2.2.2.2.2.2.2.2.1
  have hE := C.2.2.2.2.2.2.2.2.1
  obtain ⟨hP, hD, hVS, hok, hlen⟩ := hW
  exact hret (some (.inl v)) M al H locs u.1 u.2 ls pc hQ hag hn ⟨hP, hD, hVS, hok, hlen⟩ (fun v hv => by cases hv; exact ok_hd hst) hu1 hu2 ⟨hd, _, hr, by rcases hv with rfl | rfl <;> rfl⟩
theorem r_cret {v : Int} (hd : decode d.2.1 pc = .ok (.ireturn, 1)) (hr : d.2.2.2.1 = some .char) (hv : 0 ≤ v ∧ v < 65536) (hQ : Q (some (.inl v)) M) (hu1 : u.1 ≤ d.2.2.2.2.1) (hu2 : u.2 ≤ d.2.2.2.2.2) : WP k d S u Q pc lv [.inl v] M := by
  intro p l e R s m args below meth c D al0 n0 A QS C hS hret al H locs ls hag hn hW hst hlv hl
  have hx := C.1
  have hb := C.2.1
  have hts : ∀ w ∈ mTb, w.before args s = true := fun w hw => mB2 (C.2.2.2.2.2.1 w hw) hw
  have hown := C.2.2.2.2.1
  have hK := C.2.2.2.2.2.2.2.1
  have hA := C.2.2.2.2.2.2.2.2.2.1
  have hE := C.2.2.2.2.2.2.2.2.1
  obtain ⟨hP, hD, hVS, hok, hlen⟩ := hW
  exact hret (some (.inl v)) M al H locs u.1 u.2 ls pc hQ hag hn ⟨hP, hD, hVS, hok, hlen⟩ (fun v hv => by cases hv; exact ok_hd hst) hu1 hu2 ⟨hd, _, hr, congrArg Value.int (nar_char hv.1 hv.2)⟩
theorem r_bret0 (hd : decode d.2.1 pc = .ok (.ireturn, 1)) (hr : d.2.2.2.1 = some .byte) (hQ : Q (some (.inl 0)) M) (hu1 : u.1 ≤ d.2.2.2.2.1) (hu2 : u.2 ≤ d.2.2.2.2.2) : WP k d S u Q pc lv [.inl 0] M := by
  intro p l e R s m args below meth c D al0 n0 A QS C hS hret al H locs ls hag hn hW hst hlv hl
  have hx := C.1
  have hb := C.2.1
  have hts : ∀ w ∈ mTb, w.before args s = true := fun w hw => mB2 (C.2.2.2.2.2.1 w hw) hw
  have hown := C.2.2.2.2.1
  have hK := C.2.2.2.2.2.2.2.1
  have hA := C.2.2.2.2.2.2.2.2.2.1
  have hE := C.2.2.2.2.2.2.2.2.1
  obtain ⟨hP, hD, hVS, hok, hlen⟩ := hW
  exact hret (some (.inl 0)) M al H locs u.1 u.2 ls pc hQ hag hn ⟨hP, hD, hVS, hok, hlen⟩ (fun v hv => by cases hv; exact ok_hd hst) hu1 hu2 ⟨hd, _, hr, rfl⟩
theorem r_aret {r : Option Nat} {C : String} (hd : decode d.2.1 pc = .ok (.areturn, 1)) (hr : d.2.2.2.1 = some (.object C)) (hQ : Q (some (.inr r)) M) (hu1 : u.1 ≤ d.2.2.2.2.1) (hu2 : u.2 ≤ d.2.2.2.2.2) : WP k d S u Q pc lv [.inr r] M := by
  intro p l e R s m args below meth c D al0 n0 A QS C hS hret al H locs ls hag hn hW hst hlv hl
  have hx := C.1
  have hb := C.2.1
  have hts : ∀ w ∈ mTb, w.before args s = true := fun w hw => mB2 (C.2.2.2.2.2.1 w hw) hw
  have hown := C.2.2.2.2.1
  have hK := C.2.2.2.2.2.2.2.1
  have hA := C.2.2.2.2.2.2.2.2.2.1
  have hE := C.2.2.2.2.2.2.2.2.1
  obtain ⟨hP, hD, hVS, hok, hlen⟩ := hW
  exact hret (some (.inr r)) M al H locs u.1 u.2 ls pc hQ hag hn ⟨hP, hD, hVS, hok, hlen⟩ (fun v hv => by cases hv; exact ok_hd hst) hu1 hu2 ⟨hd, _, hr, Or.inl ⟨_, rfl⟩⟩
end ROWS3
