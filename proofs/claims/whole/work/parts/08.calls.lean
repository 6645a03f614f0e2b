/-! ===== calls: a method's WP is a contract of the machine; the rows of the calls ===== -/
def mQc (Q : Option mV → mM → Prop) (D : va_G) (al : Nat → Nat) (n0 : Nat) (A : Nat → Prop) : Array Value → State → Outcome → State → Prop := fun _ st o t =>
  (∃ (r : Option mV) (M' : mM) (al' : Nat → Nat), o = .returned (r.map (mc_v al')) ∧ Q r M' ∧ mAgr n0 al' al ∧ n0 ≤ M'.1.length ∧ mRO M'.1.length r ∧ okM M' ∧ M'.1.length < 1000 ∧ va_P D vwCl (mWs D al' M') t.heap ∧ va_D A (mWs D al' M')) ∧ va_F A st t
def mPc (D : va_G) (al : Nat → Nat) (M : mM) (as : List mV) (sz : Nat) : Array Value → State → Prop := va_Pc (mSts al as) (fun U => U.heap.size = sz ∧ va_P D vwCl (mWs D al M) U.heap ∧ va_K D vwCl (mTys D) U ∧ va_D (fun _ => True) (mWs D al M) ∧ mExt al (va_A (mWs D al M) sz) U U.heap ∧ okM M ∧ M.1.length < 1000 ∧ ∀ v ∈ as, okV M.1.length v)
def mAr : Nat → List mV → List (Nat × mV)
  | _, [] => []
  | i, v :: t => (i, v) :: mAr (i + 1) t
theorem mAr_eq (al : Nat → Nat) (as : List mV) : ∀ i, lv_args i (mSts al as) = mLvs al (mAr i as) := by
  induction as with
  | nil => intro i; rfl
  | cons v t ih =>
    intro i
    show (i, mc_v al v) :: lv_args (if (mc_v al v).category = 2 then i + 2 else i + 1) (mSts al t) = (i, mc_v al v) :: mLvs al (mAr (i + 1) t)
    rw [mc_cat, if_neg (by decide), ih]
theorem mAr_ok {n : Nat} {as : List mV} (h : ∀ v ∈ as, okV n v) : ∀ i, ∀ q ∈ mAr i as, okV n q.2 := by
  induction as with
  | nil => intro i q hq; cases hq
  | cons v t ih =>
    intro i q hq
    rcases List.mem_cons.mp hq with rfl | hq
    · exact h v List.mem_cons_self
    · exact ih (fun x hx => h x (List.mem_cons_of_mem _ hx)) (i + 1) q hq
theorem mSl_len (al : Nat → Nat) (as : List mV) : (lg_sl (mSts al as)).length = as.length := by
  induction as with
  | nil => rfl
  | cons v t ih =>
    show (List.flatMap _ (mc_v al v :: mSts al t)).length = _
    rw [List.flatMap_cons, List.length_append]
    have h1 := mc_cat al v
    simp only [h1]
    simp only [lg_sl] at ih
    simp [ih]; omega
/-- a method: what the calls ask of it -/
def mOk (d : mD) (np : Nat) : Prop := plainFor d.1 = true ∧ Cond.code d.1 d.2.1 d.2.2.1 d.2.2.2.1 ∈ mTb ∧ Cond.initialized d.1.cls ∈ mTb ∧ (d.1.cls ≠ "java/lang/invoke/MethodHandle" ∧ d.1.cls ≠ "java/lang/invoke/VarHandle" ∧ (parseMethodDescriptor d.1.desc).map (fun q => q.parameters.length) = some np) ∧ d.2.2.1 ≤ 21
theorem mCtr {l : Launch} {k : Nat} {d : mD} {np : Nat} {Q : Option mV → mM → Prop} {as : List mV} {M : mM} (ho : mOk d np) (hlen : as.length ≤ d.2.2.1) (hF : WP k d none (0, 0) Q 0 (mAr 0 as) [] M) (D : va_G) (al : Nat → Nat) (sz : Nat) :
    Met l d.1 (mWd d) (mRm k d) (mPc D al M as sz) (mQc Q D al M.1.length (va_A (mWs D al M) sz)) d.2.2.2.2.1 d.2.2.2.2.2 (va_A (mWs D al M) sz) := by
  refine va_MetF (cc := d.2.1) (maxL := d.2.2.1) (ret := d.2.2.2.1) ho.1 rfl ?_
  intro p e s m args below meth c s₁ B hml hv
  obtain ⟨rfl, hsz, hP, hK, hD0, hE, hok, hln, hav⟩ := hv
  have hts := atoms_spec (ws := mWd d) B.pre
  have hown : s.vm.findClass d.1.cls = some m.cls := findClass_of_methodNamed B.named
  have hnm : meth.name = d.1.name := (name_of_methodNamed B.named B.method).1
  subst hsz
  have hD : va_D (va_A (mWs D al M) s.heap.size) (mWs D al M) := hD0.self
  rw [lg_entry_eq]
  have hl := lv_entry (mSts al as) (n := d.2.2.1) (by rw [mSl_len]; exact hlen)
  rw [mAr_eq] at hl
  generalize (lg_sl (mSts al as) ++ List.replicate (d.2.2.1 - (lg_sl (mSts al as)).length) Slot.unset).toArray = ls at hl ⊢
  refine hF p l e (mRm k d) s m (mSts al as).toArray below meth c D al M.1.length (va_A (mWs D al M) s.heap.size) _ ⟨B.exec, B.bytes, B.returns, hml, hown, fun w hw => mB2 (hts w (List.mem_cons_of_mem _ hw)) hw, hnm, hK, hE, fun q hq => Or.inr hq, Nat.le_refl _, Nat.le_refl _, Nat.le_refl _, Nat.le_refl _⟩ trivial ?_ al s.heap [] ls (fun a _ => rfl) (Nat.le_refl _) ⟨hP, hD, va_S.rf, hok, hln⟩ (fun v hv => by cases hv) (mAr_ok hav 0) hl
  intro r M' al' H' locs' u1 u2 ls' pc' hQ hag' hn' hW' hro hu1 hu2 hrt
  refine W.widen hu1 hu2 ?_
  obtain ⟨hP', hD', hS', hok', hln'⟩ := hW'
  have hfin : ∀ t : State, t.heap = H' → mQc Q D al M.1.length (va_A (mWs D al M) s.heap.size) (mSts al as).toArray s (.returned (r.map (mc_v al'))) t := fun t ht => ⟨⟨r, M', al', rfl, hQ, hag', hn', hro, hok', hln', by rw [ht]; exact hP', hD'⟩, hS'.F ht⟩
  cases r with
  | none => exact W.vret B.exec B.bytes (B.returns.trans hrt.2) (fun t ht _ => hfin t ht) hS'.2.2 hrt.1 B.notSynchronized
  | some v =>
    cases v with
    | inl x =>
      obtain ⟨h1, ty, h2, h3⟩ := hrt
      exact W.zret B.exec B.bytes (B.returns.trans h2) h3 (fun t ht _ => hfin t ht) hS'.2.2 h1 B.notSynchronized
    | inr x =>
      obtain ⟨h1, ty, h2, h3⟩ := hrt
      exact W.aret B.exec B.bytes (B.returns.trans h2) h3 (by cases x <;> first | exact Or.inl rfl | exact Or.inr ⟨_, rfl⟩) (fun t ht _ => hfin t ht) hS'.2.2 h1 B.notSynchronized
theorem mPc_blind {D : va_G} {al : Nat → Nat} {M : mM} {as : List mV} {sz : Nat} : FrameBlind (mPc D al M as sz) := by
  intro a U g mk q
  obtain ⟨h1, h2, h3, h4, h5, h6, h7⟩ := q
  exact ⟨h1, h2, h3, va_K.moved (u := U) (U := U.calling g mk a) (Vm.Alike.refl U.vm) h4, h5, h6.same (U := U.calling g mk a) rfl, h7⟩
theorem good_mTb {L : List Cond} (h : ∀ w ∈ L, w ∈ mTb) : GoodIn mTb L := fun w hw => ⟨h w hw, good_of_word (List.mem_filter.mp (h w hw)).2⟩
theorem mWd_in {d : mD} {np : Nat} (ho : mOk d np) : ∀ w ∈ mWd d, w ∈ mTb := fun w hw => by
  rcases List.mem_cons.mp hw with rfl | h
  · exact ho.2.1
  · exact h
section GOON
variable {p : Program} {l : Launch} {e : Env} {R : Room} {s : State} {m : MethodId} {args : Array Value} {below : List Frame} {meth : Method} {c : Code} {H : Heap} {locs : List Loc} {cells slots mc ms pc : Nat} {ls : Array Slot} {Q : State → Prop} {st0 rest : List Value} {Qa : State → Outcome → State → Prop} {free : Addr → Prop}
theorem va_goOn (hr : va_Run p l e R s m args below meth c H locs cells slots mc ms (F0 m pc ls st0) rest Qa free)
    (kk : ∀ (v : Option Value) (st₀ t : State) (H1 : Heap) (L : List Loc), st₀.heap = H → t.heap = H1 → (∀ q ∈ L, free q.base) → Qa st₀ (.returned v) t → W p l e R s m args below meth c H1 (locs ++ L) (cells + mc) (slots + ms) Q (F0 m (pc + 3) ls (v.toList ++ rest))) : W p l e R s m args below meth c H locs cells slots Q (F0 m pc ls st0) := by
  intro T hT X
  obtain ⟨v, st₀, t, T', L, h0, X', hL, e1, e2, hq, st⟩ := hr T hT X
  obtain ⟨t2, a1, b1⟩ := kk v st₀ t T'.heap L h0 e1.symm hL hq T' rfl X'
  exact ⟨t2, st t2 a1, b1⟩
end GOON
section CALLS
variable {k : Nat} {d dj : mD} {S : Option (Nat × (Nat → Int))} {u : Nat × Nat} {Q Q' : Option mV → mM → Prop} {pc : Nat} {lv : List (Nat × mV)} {st as : List mV} {M : mM}
/-- behind any call: the machine stands where the callee's WP says -/
theorem mBack {p : Program} {l : Launch} {e : Env} {R : Room} {s : State} {m : MethodId} {args : Array Value} {below : List Frame} {meth : Method} {c : Code} {D : va_G} {al0 al : Nat → Nat} {n0 : Nat} {A : Nat → Prop} {QS : State → Prop} {H : Heap} {locs : List Loc} {ls : Array Slot} {st0 : List Value} {a : Array Value}
    (C : mCx (k + 1) d p R s m meth c D al0 A) (hS : mScr S al0 s A)
    (hret : ∀ (r : Option mV) (M' : mM) (al' : Nat → Nat) (H' : Heap) (locs' : List Loc) (u1 u2 : Nat) (ls' : Array Slot) (pc' : Nat), Q r M' → mAgr n0 al' al0 → n0 ≤ M'.1.length → mWld D al' M' A s.heap H' locs' → mRO M'.1.length r → u1 ≤ d.2.2.2.2.1 → u2 ≤ d.2.2.2.2.2 → mRt d pc' r → W p l e R s m args below meth c H' locs' u1 u2 QS (F0 m pc' ls' (mSts al' r.toList)))
    (hag : mAgr n0 al al0) (hn : n0 ≤ M.1.length) (hW : mWld D al M A s.heap H locs) (hst : ∀ v ∈ st, okV M.1.length v) (hlv : ∀ q ∈ lv, okV M.1.length q.2) (hl : lv_has ls d.2.2.1 (mLvs al lv))
    (kk : ∀ r M', Q' r M' → WP (k + 1) d S (u.1 + dj.2.2.2.2.1, u.2 + dj.2.2.2.2.2) Q (pc + 3) lv (r.toList ++ st) M')
    (hr : va_Run p l e R s m args below meth c H locs u.1 u.2 dj.2.2.2.2.1 dj.2.2.2.2.2 (F0 m pc ls st0) (mSts al st) (mQc Q' D al M.1.length (va_A (mWs D al M) H.size) a) (va_A (mWs D al M) H.size)) :
    W p l e R s m args below meth c H locs u.1 u.2 QS (F0 m pc ls st0) := by
  obtain ⟨hP, hD, hVS, hok, hlen⟩ := hW
  have hA := C.2.2.2.2.2.2.2.2.2.1
  have hsub : ∀ q, va_A (mWs D al M) H.size q → A q := fun q hq => by
    rcases hq with ⟨i, e, hi⟩ | hq
    · exact hD.2 i (q, e) hi
    · exact hA q (Nat.le_trans hVS.1 hq)
  refine va_goOn hr (fun v st₀ t H1 L h0 ht hL hq => ?_)
  obtain ⟨⟨r, M', al', ho, hQ, hag', hn', hro, hok', hlen', hP', hD'⟩, hF1, hF2⟩ := hq
  rw [h0] at hF1 hF2
  rw [ht] at hP' hF1 hF2
  have hv : v = r.map (mc_v al') := by
    have h1 : Outcome.returned v = Outcome.returned (r.map (mc_v al')) := ho
    injection h1
  subst hv
  have h9 := kk r M' hQ p l e R s m args below meth c D al0 n0 A QS C hS hret al' H1 (locs ++ L) ls (fun a ha => by rw [hag' a (by omega)]; exact hag a ha) (by omega) ⟨hP', hD'.weaken (fun i q _ h => hsub _ h), ⟨Nat.le_trans hVS.1 hF1, fun q h1 h2 => by rw [hF2 q (Nat.lt_of_lt_of_le h1 hVS.1) (fun z => h2 (hsub q z))]; exact hVS.2.1 q h1 h2, fun q hq => by
      rcases List.mem_append.mp hq with h | h
      · exact hVS.2.2 q h
      · exact hsub _ (hL q h)⟩, hok', hlen'⟩ (fun x hx => by
      rcases List.mem_append.mp hx with h | h
      · cases r with
        | none => cases h
        | some y =>
          have : x = y := by simpa using h
          subst this
          exact hro _ rfl
      · exact okV_le hn' (hst x h)) (fun q hq => okV_le hn' (hlv q hq)) (by rw [mLvs_congr hag' hlv]; exact hl)
  have e9 : mSts al' (r.toList ++ st) = (r.map (mc_v al')).toList ++ mSts al st := by
    unfold mSts
    rw [List.map_append]
    congr 1
    · cases r <;> rfl
    · exact mSts_congr hag' hst
  rw [e9] at h9
  exact h9
/-- what the callee finds -/
theorem mFind {D : va_G} {al0 al : Nat → Nat} {n0 : Nat} {A : Nat → Prop} {p : Program} {R : Room} {s : State} {m : MethodId} {meth : Method} {c : Code} {H : Heap} {locs : List Loc} (C : mCx (k + 1) d p R s m meth c D al0 A) (hag : mAgr n0 al al0) (hW : mWld D al M A s.heap H locs) (has : ∀ v ∈ as, okV M.1.length v) :
    ∀ U : State, U.heap = H → s.WarmedH U.vm → mPc D al M as H.size (mSts al as).toArray U := by
  intro U hU hWm
  obtain ⟨hP, hD, hVS, hok, hlen⟩ := hW
  have hA := C.2.2.2.2.2.2.2.2.2.1
  have hsub : ∀ q, va_A (mWs D al M) H.size q → A q := fun q hq => by
    rcases hq with ⟨i, e, hi⟩ | hq
    · exact hD.2 i (q, e) hi
    · exact hA q (Nat.le_trans hVS.1 hq)
  refine ⟨rfl, by rw [hU], by rw [hU]; exact hP, va_K.moved hWm.alike C.2.2.2.2.2.2.2.1, hD.weaken (fun _ _ _ _ => trivial), ?_, hok, hlen, has⟩
  rw [hU]
  exact (((C.2.2.2.2.2.2.2.2.1.agr (fun a ha => hag a (Or.inr ha))).warm hWm).kept (H1 := H) (fun a h1 h2 => hVS.2.1 a h1 h2)).narrow hsub
theorem mStk (al : Nat → Nat) (as st : List mV) (v : mV) : mSts al (as.reverse ++ v :: st) = (mSts al as).reverse ++ mc_v al v :: mSts al st := by simp [mSts]
theorem mStk2 (al : Nat → Nat) (as st : List mV) : mSts al (as.reverse ++ st) = (mSts al as).reverse ++ mSts al st := by simp [mSts]
theorem r_invV {idx : Nat} {a kd : Nat} (hd : decode d.2.1 pc = .ok (.invokevirtual idx, 3)) (hl0 : Cond.methodLink d.1.cls idx dj.1 ∈ mTb) (hin : Cond.instanceMethod dj.1 ∈ mTb) (hsel : Cond.selects (mRx kd) dj.1 dj.1 ∈ mTb) (hcls : dj.1.cls = mRx kd) (ha : M.1[a]? = some (kd, mNx kd)) (hk : kd < 7) (ho : mOk dj as.length) (hml : as.length + 1 ≤ dj.2.2.1) (hr8 : st.length ≤ 8) (hu1 : u.1 + dj.2.2.2.2.1 ≤ d.2.2.2.2.1) (hu2 : u.2 + dj.2.2.2.2.2 ≤ d.2.2.2.2.2)
    (hF : WP k dj none (0, 0) Q' 0 (mAr 0 (.inr (some a) :: as)) [] M)
    (kk : ∀ r M', Q' r M' → WP (k + 1) d S (u.1 + dj.2.2.2.2.1, u.2 + dj.2.2.2.2.2) Q (pc + 3) lv (r.toList ++ st) M') : WP (k + 1) d S u Q pc lv (as.reverse ++ .inr (some a) :: st) M := by
  intro p l e R s m args below meth c D al0 n0 A QS C hS hret al H locs ls hag hn hW hst hlv hl
  have hx := C.1
  have hb := C.2.1
  have hts : ∀ w ∈ mTb, w.before args s = true := fun w hw => mB2 (C.2.2.2.2.2.1 w hw) hw
  have hown := C.2.2.2.2.1
  have hK := C.2.2.2.2.2.2.2.1
  have hA := C.2.2.2.2.2.2.2.2.2.1
  have hE := C.2.2.2.2.2.2.2.2.1
  have hR := C.2.2.2.2.2.2.2.2.2.2
  have has : ∀ v ∈ (.inr (some a) :: as), okV M.1.length v := fun v hv => hst v (by simp at hv ⊢; rcases hv with h | h <;> simp [h])
  have hst' : ∀ v ∈ st, okV M.1.length v := fun v hv => hst v (by simp [hv])
  have hMet := mCtr (l := l) ho (by simp; omega) hF D al H.size
  refine mBack (a := (mSts al (.inr (some a) :: as)).toArray) C hS hret hag hn hW hst' hlv hl kk ?_
  have hfind := mFind C hag hW has
  have hroom : (mRm k dj).frames + 1 ≤ R.frames ∧ 8 + (dj.2.2.1 + 11) + (mRm k dj).locals ≤ R.locals := by
    have h1 := hR.1
    have h2 := hR.2.1
    have h3 := ho.2.2.2.2
    exact ⟨h1, by show 8 + (dj.2.2.1 + 11) + 40 * k ≤ _; omega⟩
  have hcat : 2 * (F0 m pc ls (mSts al (as.reverse ++ .inr (some a) :: st))).monitorRoom + ((mSts al st).map fun v => v.category).sum ≤ 8 := by
    rw [mCat]
    show 2 * 0 + _ ≤ 8
    omega
  have hrec : ∃ cellB : Cell, H[al a]? = some cellB ∧ cellB.vm.isStatics = false ∧ s.vm.findClass (mRx kd) = some cellB.cls := by
    have he := mWs_get (D := D) (al := al) ha
    rw [mE_obj hk] at he
    exact va_recv hK hW.1 (mCl hk) he
  exact va_runV (C := mRx kd) (b := al a) (As := mSts al as) (rest := mSts al st) ⟨hx, hb, C.2.2.2.1, hown, hts⟩ hMet ⟨callB_of as.length hts (good_mTb (mWd_in ho)) rfl rfl rfl (hts _ ho.2.2.1) (hts _ hl0) ho.2.2.2.1 hroom, hts _ hin, hts _ hsel⟩ ⟨mPc_blind, hrec, fun U hU hWm => hfind U hU hWm⟩ rfl (by simp [mSts]) hl.1 (mStk al as st _) hcat hd ⟨by have := hR.2.2.1; omega, by have := hR.2.2.2; omega⟩
theorem r_invT {idx : Nat} {i : Nat} (hd : decode d.2.1 pc = .ok (.invokevirtual idx, 3)) (hl0 : Cond.methodLink d.1.cls idx dj.1 ∈ mTb) (hin : Cond.instanceMethod dj.1 ∈ mTb) (hsel : Cond.selects "java/lang/String" dj.1 dj.1 ∈ mTb) (hcls : dj.1.cls = "java/lang/String") (hi : i < 9) (ho : mOk dj as.length) (hml : as.length + 1 ≤ dj.2.2.1) (hr8 : st.length ≤ 8) (hu1 : u.1 + dj.2.2.2.2.1 ≤ d.2.2.2.2.1) (hu2 : u.2 + dj.2.2.2.2.2 ≤ d.2.2.2.2.2)
    (hF : WP k dj none (0, 0) Q' 0 (mAr 0 (.inr (some (1000 + i)) :: as)) [] M)
    (kk : ∀ r M', Q' r M' → WP (k + 1) d S (u.1 + dj.2.2.2.2.1, u.2 + dj.2.2.2.2.2) Q (pc + 3) lv (r.toList ++ st) M') : WP (k + 1) d S u Q pc lv (as.reverse ++ .inr (some (1000 + i)) :: st) M := by
  intro p l e R s m args below meth c D al0 n0 A QS C hS hret al H locs ls hag hn hW hst hlv hl
  have hx := C.1
  have hb := C.2.1
  have hts : ∀ w ∈ mTb, w.before args s = true := fun w hw => mB2 (C.2.2.2.2.2.1 w hw) hw
  have hown := C.2.2.2.2.1
  have hK := C.2.2.2.2.2.2.2.1
  have hA := C.2.2.2.2.2.2.2.2.2.1
  have hE := C.2.2.2.2.2.2.2.2.1
  have hR := C.2.2.2.2.2.2.2.2.2.2
  have has : ∀ v ∈ (.inr (some (1000 + i)) :: as), okV M.1.length v := fun v hv => hst v (by simp at hv ⊢; rcases hv with h | h <;> simp [h])
  have hst' : ∀ v ∈ st, okV M.1.length v := fun v hv => hst v (by simp [hv])
  have hMet := mCtr (l := l) ho (by simp; omega) hF D al H.size
  refine mBack (a := (mSts al (.inr (some (1000 + i)) :: as)).toArray) C hS hret hag hn hW hst' hlv hl kk ?_
  have hfind := mFind C hag hW has
  have hroom : (mRm k dj).frames + 1 ≤ R.frames ∧ 8 + (dj.2.2.1 + 11) + (mRm k dj).locals ≤ R.locals := by
    have h1 := hR.1
    have h2 := hR.2.1
    have h3 := ho.2.2.2.2
    exact ⟨h1, by show 8 + (dj.2.2.1 + 11) + 40 * k ≤ _; omega⟩
  have hcat : 2 * (F0 m pc ls (mSts al (as.reverse ++ .inr (some (1000 + i)) :: st))).monitorRoom + ((mSts al st).map fun v => v.category).sum ≤ 8 := by
    rw [mCat]
    show 2 * 0 + _ ≤ 8
    omega
  have e8 : al (1000 + i) = al0 (1000 + i) := hag _ (Or.inr (by omega))
  have hrec : ∃ cellB : Cell, H[al (1000 + i)]? = some cellB ∧ cellB.vm.isStatics = false ∧ s.vm.findClass "java/lang/String" = some cellB.cls := by
    rw [e8]
    exact vk_recv (adK := fun i => al0 (1000 + i)) hE.2.2.1 hi hW.2.2.1
  exact va_runV (C := "java/lang/String") (b := al (1000 + i)) (As := mSts al as) (rest := mSts al st) ⟨hx, hb, C.2.2.2.1, hown, hts⟩ hMet ⟨callB_of as.length hts (good_mTb (mWd_in ho)) rfl rfl rfl (hts _ ho.2.2.1) (hts _ hl0) ho.2.2.2.1 hroom, hts _ hin, hts _ hsel⟩ ⟨mPc_blind, hrec, fun U hU hWm => hfind U hU hWm⟩ rfl (by simp [mSts]) hl.1 (mStk al as st _) hcat hd ⟨by have := hR.2.2.1; omega, by have := hR.2.2.2; omega⟩
theorem r_invS {idx : Nat} (hd : decode d.2.1 pc = .ok (.invokestatic idx, 3)) (hl0 : Cond.methodLink d.1.cls idx dj.1 ∈ mTb) (hsta : Cond.static dj.1 ∈ mTb) (ho : mOk dj as.length) (hml : as.length ≤ dj.2.2.1) (hr8 : st.length ≤ 8) (hu1 : u.1 + dj.2.2.2.2.1 ≤ d.2.2.2.2.1) (hu2 : u.2 + dj.2.2.2.2.2 ≤ d.2.2.2.2.2)
    (hF : WP k dj none (0, 0) Q' 0 (mAr 0 as) [] M)
    (kk : ∀ r M', Q' r M' → WP (k + 1) d S (u.1 + dj.2.2.2.2.1, u.2 + dj.2.2.2.2.2) Q (pc + 3) lv (r.toList ++ st) M') : WP (k + 1) d S u Q pc lv (as.reverse ++ st) M := by
  intro p l e R s m args below meth c D al0 n0 A QS C hS hret al H locs ls hag hn hW hst hlv hl
  have hx := C.1
  have hb := C.2.1
  have hts : ∀ w ∈ mTb, w.before args s = true := fun w hw => mB2 (C.2.2.2.2.2.1 w hw) hw
  have hown := C.2.2.2.2.1
  have hK := C.2.2.2.2.2.2.2.1
  have hA := C.2.2.2.2.2.2.2.2.2.1
  have hE := C.2.2.2.2.2.2.2.2.1
  have hR := C.2.2.2.2.2.2.2.2.2.2
  have has : ∀ v ∈ as, okV M.1.length v := fun v hv => hst v (by simp; exact Or.inl hv)
  have hst' : ∀ v ∈ st, okV M.1.length v := fun v hv => hst v (by simp [hv])
  have hMet := mCtr (l := l) ho (by exact hml) hF D al H.size
  refine mBack (a := (mSts al as).toArray) C hS hret hag hn hW hst' hlv hl kk ?_
  have hfind := mFind C hag hW has
  have hroom : (mRm k dj).frames + 1 ≤ R.frames ∧ 8 + (dj.2.2.1 + 11) + (mRm k dj).locals ≤ R.locals := by
    have h1 := hR.1
    have h2 := hR.2.1
    have h3 := ho.2.2.2.2
    exact ⟨h1, by show 8 + (dj.2.2.1 + 11) + 40 * k ≤ _; omega⟩
  have hcat : 2 * (F0 m pc ls (mSts al (as.reverse ++ st))).monitorRoom + ((mSts al st).map fun v => v.category).sum ≤ 8 := by
    rw [mCat]
    show 2 * 0 + _ ≤ 8
    omega
  exact va_runS (As := mSts al as) (rest := mSts al st) ⟨hx, hb, C.2.2.2.1, hown, hts⟩ hMet ⟨callB_of as.length hts (good_mTb (mWd_in ho)) rfl rfl rfl (hts _ ho.2.2.1) (hts _ hl0) ho.2.2.2.1 hroom, hts _ hsta⟩ ⟨mPc_blind, fun U hU hWm => hfind U hU hWm⟩ rfl (by simp [mSts]) hl.1 (mStk2 al as st) hcat hd ⟨by have := hR.2.2.1; omega, by have := hR.2.2.2; omega⟩
theorem r_invSN {idx : Nat} (hd : decode d.2.1 pc = .ok (.invokestatic idx, 3)) (hl0 : (d.1.cls, idx, dj.1, RX5) ∈ mNest) (hsta : Cond.static dj.1 ∈ mTb) (ho : mOk dj as.length) (hml : as.length ≤ dj.2.2.1) (hr8 : st.length ≤ 8) (hu1 : u.1 + dj.2.2.2.2.1 ≤ d.2.2.2.2.1) (hu2 : u.2 + dj.2.2.2.2.2 ≤ d.2.2.2.2.2)
    (hF : WP k dj none (0, 0) Q' 0 (mAr 0 as) [] M)
    (kk : ∀ r M', Q' r M' → WP (k + 1) d S (u.1 + dj.2.2.2.2.1, u.2 + dj.2.2.2.2.2) Q (pc + 3) lv (r.toList ++ st) M') : WP (k + 1) d S u Q pc lv (as.reverse ++ st) M := by
  intro p l e R s m args below meth c D al0 n0 A QS C hS hret al H locs ls hag hn hW hst hlv hl
  have hx := C.1
  have hb := C.2.1
  have hts : ∀ w ∈ mTb, w.before args s = true := fun w hw => mB2 (C.2.2.2.2.2.1 w hw) hw
  have hown := C.2.2.2.2.1
  have hK := C.2.2.2.2.2.2.2.1
  have hA := C.2.2.2.2.2.2.2.2.2.1
  have hE := C.2.2.2.2.2.2.2.2.1
  have hR := C.2.2.2.2.2.2.2.2.2.2
  have has : ∀ v ∈ as, okV M.1.length v := fun v hv => hst v (by simp; exact Or.inl hv)
  have hst' : ∀ v ∈ st, okV M.1.length v := fun v hv => hst v (by simp [hv])
  have hMet := mCtr (l := l) ho (by exact hml) hF D al H.size
  refine mBack (a := (mSts al as).toArray) C hS hret hag hn hW hst' hlv hl kk ?_
  have hfind := mFind C hag hW has
  have hroom : (mRm k dj).frames + 1 ≤ R.frames ∧ 8 + (dj.2.2.1 + 11) + (mRm k dj).locals ≤ R.locals := by
    have h1 := hR.1
    have h2 := hR.2.1
    have h3 := ho.2.2.2.2
    exact ⟨h1, by show 8 + (dj.2.2.1 + 11) + 40 * k ≤ _; omega⟩
  have hcat : 2 * (F0 m pc ls (mSts al (as.reverse ++ st))).monitorRoom + ((mSts al st).map fun v => v.category).sum ≤ 8 := by
    rw [mCat]
    show 2 * 0 + _ ≤ 8
    omega
  have hnest := hE.1 _ hl0
  exact va_runSN (host := RX5) (As := mSts al as) (rest := mSts al st) ⟨hx, hb, C.2.2.2.1, hown, hts⟩ hMet ⟨va_cnB as.length hts (good_mTb (mWd_in ho)) rfl rfl rfl hnest (hts _ ho.2.2.1) ho.2.2.2.1 hroom, hts _ hsta, trivial⟩ ⟨mPc_blind, fun U hU hWm => hfind U hU hWm⟩ rfl (by simp [mSts]) hl.1 (mStk2 al as st) hcat hd ⟨by have := hR.2.2.1; omega, by have := hR.2.2.2; omega⟩
theorem r_invI {idx : Nat} {a : Nat} (hd : decode d.2.1 pc = .ok (.invokespecial idx, 3)) (hl0 : Cond.methodLink d.1.cls idx dj.1 ∈ mTb) (hin : Cond.instanceMethod dj.1 ∈ mTb) (hnm : dj.1.name = "<init>") (hvr : dj.2.2.2.1 = none) (ho : mOk dj as.length) (hml : as.length + 1 ≤ dj.2.2.1) (hr8 : st.length ≤ 8) (hu1 : u.1 + dj.2.2.2.2.1 ≤ d.2.2.2.2.1) (hu2 : u.2 + dj.2.2.2.2.2 ≤ d.2.2.2.2.2)
    (hF : WP k dj none (0, 0) Q' 0 (mAr 0 (.inr (some a) :: as)) [] M)
    (kk : ∀ r M', Q' r M' → WP (k + 1) d S (u.1 + dj.2.2.2.2.1, u.2 + dj.2.2.2.2.2) Q (pc + 3) lv (r.toList ++ st) M') : WP (k + 1) d S u Q pc lv (as.reverse ++ .inr (some a) :: st) M := by
  intro p l e R s m args below meth c D al0 n0 A QS C hS hret al H locs ls hag hn hW hst hlv hl
  have hx := C.1
  have hb := C.2.1
  have hts : ∀ w ∈ mTb, w.before args s = true := fun w hw => mB2 (C.2.2.2.2.2.1 w hw) hw
  have hown := C.2.2.2.2.1
  have hK := C.2.2.2.2.2.2.2.1
  have hA := C.2.2.2.2.2.2.2.2.2.1
  have hE := C.2.2.2.2.2.2.2.2.1
  have hR := C.2.2.2.2.2.2.2.2.2.2
  have has : ∀ v ∈ (.inr (some a) :: as), okV M.1.length v := fun v hv => hst v (by simp at hv ⊢; rcases hv with h | h <;> simp [h])
  have hst' : ∀ v ∈ st, okV M.1.length v := fun v hv => hst v (by simp [hv])
  have hMet := mCtr (l := l) ho (by simp; omega) hF D al H.size
  refine mBack (a := (mSts al (.inr (some a) :: as)).toArray) C hS hret hag hn hW hst' hlv hl kk ?_
  have hfind := mFind C hag hW has
  have hroom : (mRm k dj).frames + 1 ≤ R.frames ∧ 8 + (dj.2.2.1 + 11) + (mRm k dj).locals ≤ R.locals := by
    have h1 := hR.1
    have h2 := hR.2.1
    have h3 := ho.2.2.2.2
    exact ⟨h1, by show 8 + (dj.2.2.1 + 11) + 40 * k ≤ _; omega⟩
  have hcat : 2 * (F0 m pc ls (mSts al (as.reverse ++ .inr (some a) :: st))).monitorRoom + ((mSts al st).map fun v => v.category).sum ≤ 8 := by
    rw [mCat]
    show 2 * 0 + _ ≤ 8
    omega
  exact va_runI (b := al a) (As := mSts al as) (rest := mSts al st) ⟨hx, hb, C.2.2.2.1, hown, hts⟩ hMet ⟨callB_of as.length hts (good_mTb (mWd_in ho)) (show mWd dj = Cond.code dj.1 dj.2.1 dj.2.2.1 none :: mTb by rw [← hvr]; rfl) rfl rfl (hts _ ho.2.2.1) (hts _ hl0) ho.2.2.2.1 hroom, hnm, hts _ hin⟩ ⟨mPc_blind, fun U hU hWm => hfind U hU hWm⟩ rfl (by simp [mSts]) hl.1 (mStk al as st _) hcat hd ⟨by have := hR.2.2.1; omega, by have := hR.2.2.2; omega⟩
theorem r_invIN {idx : Nat} {a : Nat} (hd : decode d.2.1 pc = .ok (.invokespecial idx, 3)) (hl0 : (d.1.cls, idx, dj.1, RX5) ∈ mNest) (hin : Cond.instanceMethod dj.1 ∈ mTb) (hnm : dj.1.name = "<init>") (hvr : dj.2.2.2.1 = none) (ho : mOk dj as.length) (hml : as.length + 1 ≤ dj.2.2.1) (hr8 : st.length ≤ 8) (hu1 : u.1 + dj.2.2.2.2.1 ≤ d.2.2.2.2.1) (hu2 : u.2 + dj.2.2.2.2.2 ≤ d.2.2.2.2.2)
    (hF : WP k dj none (0, 0) Q' 0 (mAr 0 (.inr (some a) :: as)) [] M)
    (kk : ∀ r M', Q' r M' → WP (k + 1) d S (u.1 + dj.2.2.2.2.1, u.2 + dj.2.2.2.2.2) Q (pc + 3) lv (r.toList ++ st) M') : WP (k + 1) d S u Q pc lv (as.reverse ++ .inr (some a) :: st) M := by
  intro p l e R s m args below meth c D al0 n0 A QS C hS hret al H locs ls hag hn hW hst hlv hl
  have hx := C.1
  have hb := C.2.1
  have hts : ∀ w ∈ mTb, w.before args s = true := fun w hw => mB2 (C.2.2.2.2.2.1 w hw) hw
  have hown := C.2.2.2.2.1
  have hK := C.2.2.2.2.2.2.2.1
  have hA := C.2.2.2.2.2.2.2.2.2.1
  have hE := C.2.2.2.2.2.2.2.2.1
  have hR := C.2.2.2.2.2.2.2.2.2.2
  have has : ∀ v ∈ (.inr (some a) :: as), okV M.1.length v := fun v hv => hst v (by simp at hv ⊢; rcases hv with h | h <;> simp [h])
  have hst' : ∀ v ∈ st, okV M.1.length v := fun v hv => hst v (by simp [hv])
  have hMet := mCtr (l := l) ho (by simp; omega) hF D al H.size
  refine mBack (a := (mSts al (.inr (some a) :: as)).toArray) C hS hret hag hn hW hst' hlv hl kk ?_
  have hfind := mFind C hag hW has
  have hroom : (mRm k dj).frames + 1 ≤ R.frames ∧ 8 + (dj.2.2.1 + 11) + (mRm k dj).locals ≤ R.locals := by
    have h1 := hR.1
    have h2 := hR.2.1
    have h3 := ho.2.2.2.2
    exact ⟨h1, by show 8 + (dj.2.2.1 + 11) + 40 * k ≤ _; omega⟩
  have hcat : 2 * (F0 m pc ls (mSts al (as.reverse ++ .inr (some a) :: st))).monitorRoom + ((mSts al st).map fun v => v.category).sum ≤ 8 := by
    rw [mCat]
    show 2 * 0 + _ ≤ 8
    omega
  have hnest := hE.1 _ hl0
  exact va_runIN (host := RX5) (b := al a) (As := mSts al as) (rest := mSts al st) ⟨hx, hb, C.2.2.2.1, hown, hts⟩ hMet ⟨va_cnB as.length hts (good_mTb (mWd_in ho)) (show mWd dj = Cond.code dj.1 dj.2.1 dj.2.2.1 none :: mTb by rw [← hvr]; rfl) rfl rfl hnest (hts _ ho.2.2.1) ho.2.2.2.1 hroom, hnm, hts _ hin⟩ ⟨mPc_blind, fun U hU hWm => hfind U hU hWm⟩ rfl (by simp [mSts]) hl.1 (mStk al as st _) hcat hd ⟨by have := hR.2.2.1; omega, by have := hR.2.2.2; omega⟩
end CALLS
