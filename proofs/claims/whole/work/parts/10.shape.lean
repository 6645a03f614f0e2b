/-! ===== the system's shape: which cells there are behind the constructors; words for the specifications ===== -/
def layR : List (Nat × Nat) := [(2, 12), (10, 4), (0, 2), (10, 8), (10, 8), (4, 3), (10, 7), (10, 7), (10, 7), (1, 6), (10, 6), (10, 6), (10, 6), (10, 6), (10, 6), (12, 3), (0, 2), (10, 8), (10, 8), (0, 2), (10, 8), (10, 8), (0, 2), (10, 8), (10, 8)]
def lay0 : List (Nat × Nat) := (5, 8) :: (layR ++ (layR ++ ((13, 4) :: (3, 4) :: (11, 80) :: (10, 3) :: (layR ++ (layR ++ (layR ++ (layR ++ [(6, 13), (10, 153), (10, 612), (10, 153), (10, 153), (10, 80), (10, 7), (10, 3)])))))))
abbrev mPt : Type := Nat → Int → Option Nat
abbrev mIt : Type := Nat → Int → Int
def isNm (P : mPt) (a c h : Nat) : Prop := lay0[a]? = some (0, 2) ∧ lay0[c]? = some (10, 8) ∧ lay0[h]? = some (10, 8) ∧ P a 0 = some c ∧ P a 1 = some h
def isVs (P : mPt) (a v kn us : Nat) : Prop := lay0[a]? = some (4, 3) ∧ lay0[v]? = some (10, 7) ∧ lay0[kn]? = some (10, 7) ∧ lay0[us]? = some (10, 7) ∧ P a 0 = some v ∧ P a 1 = some kn ∧ P a 2 = some us
def isOr (P : mPt) (a w c f g m : Nat) : Prop := lay0[a]? = some (1, 6) ∧ lay0[w]? = some (10, 6) ∧ lay0[c]? = some (10, 6) ∧ lay0[f]? = some (10, 6) ∧ lay0[g]? = some (10, 6) ∧ lay0[m]? = some (10, 6) ∧ P a 1 = some w ∧ P a 2 = some c ∧ P a 3 = some f ∧ P a 4 = some g ∧ P a 5 = some m
def isRm (P : mPt) (b : Nat) : Prop := (lay0[b]? = some (2, 12) ∧ lay0[b + 1]? = some (10, 4) ∧ lay0[b + 15]? = some (12, 3)) ∧ (P b 7 = some (b + 1) ∧ P b 8 = some (b + 2) ∧ P b 9 = some (b + 5) ∧ P b 10 = some (b + 9) ∧ P b 11 = some (b + 15)) ∧ isNm P (b + 2) (b + 3) (b + 4) ∧ isVs P (b + 5) (b + 6) (b + 7) (b + 8) ∧ isOr P (b + 9) (b + 10) (b + 11) (b + 12) (b + 13) (b + 14) ∧ (P (b + 15) 0 = some (b + 16) ∧ P (b + 15) 1 = some (b + 19) ∧ P (b + 15) 2 = some (b + 22)) ∧ isNm P (b + 16) (b + 17) (b + 18) ∧ isNm P (b + 19) (b + 20) (b + 21) ∧ isNm P (b + 22) (b + 23) (b + 24)
def mA (b : Nat) (i : Int) : Nat := b + 16 + 3 * i.toNat
def mC (b : Nat) (i : Int) : Nat := b + 17 + 3 * i.toNat
def mH (b : Nat) (i : Int) : Nat := b + 18 + 3 * i.toNat
theorem isRm.mark {P : mPt} {b : Nat} (h : isRm P b) {i : Int} (h0 : 0 ≤ i) (h1 : i < 3) : P (b + 15) i = some (mA b i) ∧ isNm P (mA b i) (mC b i) (mH b i) := by
  have h2 : i = 0 ∨ i = 1 ∨ i = 2 := by omega
  rcases h2 with rfl | rfl | rfl
  · exact ⟨h.2.2.2.2.2.1.1, h.2.2.2.2.2.2.1⟩
  · exact ⟨h.2.2.2.2.2.1.2.1, h.2.2.2.2.2.2.2.1⟩
  · exact ⟨h.2.2.2.2.2.1.2.2, h.2.2.2.2.2.2.2.2⟩
def bI (p : Prop) [Decidable p] : Int := if p then 1 else 0
theorem bI_01 (p : Prop) [Decidable p] : bI p = 0 ∨ bI p = 1 := by unfold bI; split <;> simp
theorem bI_t {p : Prop} [Decidable p] (h : p) : bI p = 1 := if_pos h
theorem bI_f {p : Prop} [Decidable p] (h : ¬ p) : bI p = 0 := if_neg h
theorem bI_e0 {p : Prop} [Decidable p] : bI p = 0 ↔ ¬ p := by unfold bI; split <;> simp_all
theorem bI_congr {p q : Prop} [Decidable p] [Decidable q] (h : p ↔ q) : bI p = bI q := by unfold bI; simp [h]
def Rt (v : Option mV) (M : mM) : Option mV → mM → Prop := fun r N => r = v ∧ N = M
theorem rtI {x y : Int} {M N : mM} (h : x = y) (hM : M = N) : Rt (some (.inl y)) N (some (.inl x)) M := ⟨by rw [h], hM⟩
theorem rtV {M N : mM} (hM : M = N) : Rt none N none M := ⟨rfl, hM⟩
theorem rtR {x y : Option Nat} {M N : mM} (h : x = y) (hM : M = N) : Rt (some (.inr y)) N (some (.inr x)) M := ⟨by rw [h], hM⟩
theorem loopN (N : Nat) (X : Nat → Prop) (h : ∀ j, (j < N → X (j + 1)) → X j) : ∀ j, X j := by
  have h1 : ∀ n j, N - j = n → X j := by
    intro n
    induction n with
    | zero => intro j hj; exact h j (fun q => by omega)
    | succ n ih => intro j hj; exact h j (fun q => ih (j + 1) (by omega))
  exact fun j => h1 _ j rfl
theorem loopW {σ : Type} (m : σ → Nat) (X : σ → Prop) (h : ∀ x, (∀ y, m y < m x → X y) → X x) : ∀ x, X x := by
  have h1 : ∀ n x, m x < n → X x := by
    intro n
    induction n with
    | zero => intro x hx; omega
    | succ n ih => intro x hx; exact h x (fun y hy => ih y (by omega))
  exact fun x => h1 _ x (Nat.lt_succ_self _)
theorem loopD (X : Nat → Prop) (h : ∀ j, (∀ i, i < j → X i) → X j) : ∀ j, X j := by
  have h1 : ∀ n j, j < n → X j := by
    intro n
    induction n with
    | zero => intro j hj; omega
    | succ n ih => intro j hj; exact h j (fun i hi => ih i (by omega))
  exact fun j => h1 _ j (Nat.lt_succ_self _)
theorem memE {I I' : mIt} {P : mPt} (h : I = I') : ((lay0, I, P) : mM) = (lay0, I', P) := by rw [h]
section ROWS4
variable {k : Nat} {d dj : mD} {S : Option (Nat × (Nat → Int))} {u : Nat × Nat} {Q : Option mV → mM → Prop} {pc : Nat} {lv : List (Nat × mV)} {st : List mV} {M M' : mM} {v : Option mV}
theorem wpE {lv' : List (Nat × mV)} {st' : List mV} (h1 : lv = lv') (h3 : st = st') (h2 : M = M') (h : WP k d S u Q pc lv' st' M') : WP k d S u Q pc lv st M := by rw [h1, h2, h3]; exact h
theorem wpOk (h : okM M → WP k d S u Q pc lv st M) : WP k d S u Q pc lv st M :=
  fun p l e R s m args below meth c D al0 n0 A QS C hS hret al H locs ls hag hn hW hst hlv hl => h hW.2.2.2.1 p l e R s m args below meth c D al0 n0 A QS C hS hret al H locs ls hag hn hW hst hlv hl
theorem wpOkL (h : (∀ q ∈ lv, okV M.1.length q.2) → WP k d S u Q pc lv st M) : WP k d S u Q pc lv st M :=
  fun p l e R s m args below meth c D al0 n0 A QS C hS hret al H locs ls hag hn hW hst hlv hl => h hlv p l e R s m args below meth c D al0 n0 A QS C hS hret al H locs ls hag hn hW hst hlv hl
theorem r_ifb_eq {p : Prop} [Decidable p] {off : Int} {tgt : Nat} (hd : decode d.2.1 pc = .ok (.ifCond .eq off, 3)) (ht : (pc : Int) + off = (tgt : Int)) (kt : ¬ p → WP k d S u Q tgt lv st M) (kf : p → WP k d S u Q (pc + 3) lv st M) : WP k d S u Q pc lv (.inl (bI p) :: st) M :=
  r_if_eq hd ht (fun h => kt (bI_e0.mp h)) (fun h => kf (Decidable.byContradiction fun z => h (bI_e0.mpr z)))
theorem r_ifb_ne {p : Prop} [Decidable p] {off : Int} {tgt : Nat} (hd : decode d.2.1 pc = .ok (.ifCond .ne off, 3)) (ht : (pc : Int) + off = (tgt : Int)) (kt : p → WP k d S u Q tgt lv st M) (kf : ¬ p → WP k d S u Q (pc + 3) lv st M) : WP k d S u Q pc lv (.inl (bI p) :: st) M :=
  r_if_ne hd ht (fun h => kt (Decidable.byContradiction fun z => h (bI_e0.mpr z))) (fun h => kf (bI_e0.mp h))
theorem r_getIs {a kd j idx : Nat} {x : Int} (hd : decode d.2.1 pc = .ok (.getfield idx, 3)) (hw : Cond.fieldLink d.1.cls idx (mTx kd j).1 (mTx kd j).2.1 (mTx kd j).2.2.1 ∈ mTb) (ha : M.1[a]? = some (kd, mNx kd)) (hk : kd < 7) (hj : j < mNx kd) (hr : mRef kd j = false) (hx : M.2.1 a j = x)
    (kk : WP k d S u Q (pc + 3) lv (.inl x :: st) M) : WP k d S u Q pc lv (.inr (some a) :: st) M := r_getI hd hw ha hk hj hr (by rw [hx]; exact kk)
theorem r_getRs {a kd j idx x : Nat} (hd : decode d.2.1 pc = .ok (.getfield idx, 3)) (hw : Cond.fieldLink d.1.cls idx (mTx kd j).1 (mTx kd j).2.1 (mTx kd j).2.2.1 ∈ mTb) (ha : M.1[a]? = some (kd, mNx kd)) (hk : kd < 7) (hj : j < mNx kd) (hr : mRef kd j = true) (hx : M.2.2 a j = some x)
    (kk : WP k d S u Q (pc + 3) lv (.inr (some x) :: st) M) : WP k d S u Q pc lv (.inr (some a) :: st) M := r_getR hd hw ha hk hj hr (by rw [hx]; exact kk)
theorem r_ialds {a n : Nat} {i x : Int} (hd : decode d.2.1 pc = .ok (.iaload, 1)) (ha : M.1[a]? = some (10, n)) (h0 : 0 ≤ i) (h1 : i < (n : Int)) (hx : M.2.1 a i = x)
    (kk : WP k d S u Q (pc + 1) lv (.inl x :: st) M) : WP k d S u Q pc lv (.inl i :: .inr (some a) :: st) M := r_iald hd ha h0 h1 (by rw [hx]; exact kk)
theorem r_iasts {a n : Nat} {i x : Int} (M' : mM) (hd : decode d.2.1 pc = .ok (.iastore, 1)) (ha : M.1[a]? = some (10, n)) (h0 : 0 ≤ i) (h1 : i < (n : Int)) (hM : (M.1, mUp M.2.1 a i x, M.2.2) = M')
    (kk : WP k d S u Q (pc + 1) lv st M') : WP k d S u Q pc lv (.inl x :: .inl i :: .inr (some a) :: st) M := r_iast hd ha h0 h1 (by rw [hM]; exact kk)
theorem r_casts {a n : Nat} {i x : Int} (M' : mM) (hd : decode d.2.1 pc = .ok (.castore, 1)) (ha : M.1[a]? = some (11, n)) (h0 : 0 ≤ i) (h1 : i < (n : Int)) (hc : 0 ≤ x ∧ x < 65536) (hM : (M.1, mUp M.2.1 a i x, M.2.2) = M')
    (kk : WP k d S u Q (pc + 1) lv st M') : WP k d S u Q pc lv (.inl x :: .inl i :: .inr (some a) :: st) M := r_cast hd ha h0 h1 hc (by rw [hM]; exact kk)
theorem r_putIs {a kd j idx : Nat} {x : Int} (M' : mM) (hd : decode d.2.1 pc = .ok (.putfield idx, 3)) (hw : Cond.fieldLink d.1.cls idx (mTx kd j).1 (mTx kd j).2.1 (mTx kd j).2.2.1 ∈ mTb) (ha : M.1[a]? = some (kd, mNx kd)) (hk : kd < 7) (hj : j < mNx kd) (hr : mRef kd j = false) (hf : (mTx kd j).2.2.2 = false) (hty : mTy kd j = .int ∨ (mTy kd j = .boolean ∧ (x = 0 ∨ x = 1))) (hM : (M.1, mUp M.2.1 a j x, M.2.2) = M')
    (kk : WP k d S u Q (pc + 3) lv st M') : WP k d S u Q pc lv (.inl x :: .inr (some a) :: st) M := r_putI hd hw ha hk hj hr hf hty (by rw [hM]; exact kk)
theorem r_calds {a n : Nat} {i x : Int} (hd : decode d.2.1 pc = .ok (.caload, 1)) (ha : M.1[a]? = some (11, n)) (h0 : 0 ≤ i) (h1 : i < (n : Int)) (hx : M.2.1 a i = x)
    (kk : WP k d S u Q (pc + 1) lv (.inl x :: st) M) : WP k d S u Q pc lv (.inl i :: .inr (some a) :: st) M := r_cald hd ha h0 h1 (by rw [hx]; exact kk)
theorem r_aald12s {a n x : Nat} {i : Int} (hd : decode d.2.1 pc = .ok (.aaload, 1)) (ha : M.1[a]? = some (12, n)) (h0 : 0 ≤ i) (h1 : i < (n : Int)) (hx : M.2.2 a i = some x)
    (kk : WP k d S u Q (pc + 1) lv (.inr (some x) :: st) M) : WP k d S u Q pc lv (.inl i :: .inr (some a) :: st) M := r_aald12 hd ha h0 h1 (by rw [hx]; exact kk)
theorem r_aald13s {a n x : Nat} {i : Int} (hd : decode d.2.1 pc = .ok (.aaload, 1)) (ha : M.1[a]? = some (13, n)) (h0 : 0 ≤ i) (h1 : i < (n : Int)) (hx : M.2.2 a i = some x)
    (kk : WP k d S u Q (pc + 1) lv (.inr (some x) :: st) M) : WP k d S u Q pc lv (.inl i :: .inr (some a) :: st) M := r_aald13 hd ha h0 h1 (by rw [hx]; exact kk)
end ROWS4
section ROWS5
variable {k : Nat} {d dj : mD} {S : Option (Nat × (Nat → Int))} {u : Nat × Nat} {Q : Option mV → mM → Prop} {pc : Nat} {lv : List (Nat × mV)} {st : List mV} {M M' : mM} {v : Option mV}
theorem r_cV0 {idx a kd : Nat} (hd : decode d.2.1 pc = .ok (.invokevirtual idx, 3)) (hl0 : Cond.methodLink d.1.cls idx dj.1 ∈ mTb) (hin : Cond.instanceMethod dj.1 ∈ mTb) (hsel : Cond.selects (mRx kd) dj.1 dj.1 ∈ mTb) (hcls : dj.1.cls = mRx kd) (ha : M.1[a]? = some (kd, mNx kd)) (hk : kd < 7) (ho : mOk dj 0) (hml : 1 ≤ dj.2.2.1) (hz : dj.2.2.2.2 = (0, 0)) (hr8 : st.length ≤ 8) (hu1 : u.1 ≤ d.2.2.2.2.1) (hu2 : u.2 ≤ d.2.2.2.2.2)
    (hF : WP k dj none (0, 0) (Rt v M') 0 [(0, .inr (some a))] [] M) (kk : WP (k + 1) d S u Q (pc + 3) lv (v.toList ++ st) M') : WP (k + 1) d S u Q pc lv (.inr (some a) :: st) M := by
  refine r_invV (as := []) hd hl0 hin hsel hcls ha hk ho (by simpa using hml) hr8 (by rw [hz]; exact hu1) (by rw [hz]; exact hu2) hF (fun r N h => ?_)
  obtain ⟨rfl, rfl⟩ := h
  rw [hz]
  exact kk
theorem r_cS0 {idx : Nat} (hd : decode d.2.1 pc = .ok (.invokestatic idx, 3)) (hl0 : Cond.methodLink d.1.cls idx dj.1 ∈ mTb) (hsta : Cond.static dj.1 ∈ mTb) (ho : mOk dj 0) (hml : 0 ≤ dj.2.2.1) (hz : dj.2.2.2.2 = (0, 0)) (hr8 : st.length ≤ 8) (hu1 : u.1 ≤ d.2.2.2.2.1) (hu2 : u.2 ≤ d.2.2.2.2.2)
    (hF : WP k dj none (0, 0) (Rt v M') 0 [] [] M) (kk : WP (k + 1) d S u Q (pc + 3) lv (v.toList ++ st) M') : WP (k + 1) d S u Q pc lv (st) M := by
  refine r_invS (as := []) hd hl0 hsta ho (by simpa using hml) hr8 (by rw [hz]; exact hu1) (by rw [hz]; exact hu2) hF (fun r N h => ?_)
  obtain ⟨rfl, rfl⟩ := h
  rw [hz]
  exact kk
theorem r_cSN0 {idx : Nat} (hd : decode d.2.1 pc = .ok (.invokestatic idx, 3)) (hl0 : (d.1.cls, idx, dj.1, RX5) ∈ mNest) (hsta : Cond.static dj.1 ∈ mTb) (ho : mOk dj 0) (hml : 0 ≤ dj.2.2.1) (hz : dj.2.2.2.2 = (0, 0)) (hr8 : st.length ≤ 8) (hu1 : u.1 ≤ d.2.2.2.2.1) (hu2 : u.2 ≤ d.2.2.2.2.2)
    (hF : WP k dj none (0, 0) (Rt v M') 0 [] [] M) (kk : WP (k + 1) d S u Q (pc + 3) lv (v.toList ++ st) M') : WP (k + 1) d S u Q pc lv (st) M := by
  refine r_invSN (as := []) hd hl0 hsta ho (by simpa using hml) hr8 (by rw [hz]; exact hu1) (by rw [hz]; exact hu2) hF (fun r N h => ?_)
  obtain ⟨rfl, rfl⟩ := h
  rw [hz]
  exact kk
theorem r_cV1 {x1 : mV} {idx a kd : Nat} (hd : decode d.2.1 pc = .ok (.invokevirtual idx, 3)) (hl0 : Cond.methodLink d.1.cls idx dj.1 ∈ mTb) (hin : Cond.instanceMethod dj.1 ∈ mTb) (hsel : Cond.selects (mRx kd) dj.1 dj.1 ∈ mTb) (hcls : dj.1.cls = mRx kd) (ha : M.1[a]? = some (kd, mNx kd)) (hk : kd < 7) (ho : mOk dj 1) (hml : 2 ≤ dj.2.2.1) (hz : dj.2.2.2.2 = (0, 0)) (hr8 : st.length ≤ 8) (hu1 : u.1 ≤ d.2.2.2.2.1) (hu2 : u.2 ≤ d.2.2.2.2.2)
    (hF : WP k dj none (0, 0) (Rt v M') 0 [(0, .inr (some a)), (1, x1)] [] M) (kk : WP (k + 1) d S u Q (pc + 3) lv (v.toList ++ st) M') : WP (k + 1) d S u Q pc lv (x1 :: .inr (some a) :: st) M := by
  refine r_invV (as := [x1]) hd hl0 hin hsel hcls ha hk ho (by simpa using hml) hr8 (by rw [hz]; exact hu1) (by rw [hz]; exact hu2) hF (fun r N h => ?_)
  obtain ⟨rfl, rfl⟩ := h
  rw [hz]
  exact kk
theorem r_cS1 {x1 : mV} {idx : Nat} (hd : decode d.2.1 pc = .ok (.invokestatic idx, 3)) (hl0 : Cond.methodLink d.1.cls idx dj.1 ∈ mTb) (hsta : Cond.static dj.1 ∈ mTb) (ho : mOk dj 1) (hml : 1 ≤ dj.2.2.1) (hz : dj.2.2.2.2 = (0, 0)) (hr8 : st.length ≤ 8) (hu1 : u.1 ≤ d.2.2.2.2.1) (hu2 : u.2 ≤ d.2.2.2.2.2)
    (hF : WP k dj none (0, 0) (Rt v M') 0 [(0, x1)] [] M) (kk : WP (k + 1) d S u Q (pc + 3) lv (v.toList ++ st) M') : WP (k + 1) d S u Q pc lv (x1 :: st) M := by
  refine r_invS (as := [x1]) hd hl0 hsta ho (by simpa using hml) hr8 (by rw [hz]; exact hu1) (by rw [hz]; exact hu2) hF (fun r N h => ?_)
  obtain ⟨rfl, rfl⟩ := h
  rw [hz]
  exact kk
theorem r_cSN1 {x1 : mV} {idx : Nat} (hd : decode d.2.1 pc = .ok (.invokestatic idx, 3)) (hl0 : (d.1.cls, idx, dj.1, RX5) ∈ mNest) (hsta : Cond.static dj.1 ∈ mTb) (ho : mOk dj 1) (hml : 1 ≤ dj.2.2.1) (hz : dj.2.2.2.2 = (0, 0)) (hr8 : st.length ≤ 8) (hu1 : u.1 ≤ d.2.2.2.2.1) (hu2 : u.2 ≤ d.2.2.2.2.2)
    (hF : WP k dj none (0, 0) (Rt v M') 0 [(0, x1)] [] M) (kk : WP (k + 1) d S u Q (pc + 3) lv (v.toList ++ st) M') : WP (k + 1) d S u Q pc lv (x1 :: st) M := by
  refine r_invSN (as := [x1]) hd hl0 hsta ho (by simpa using hml) hr8 (by rw [hz]; exact hu1) (by rw [hz]; exact hu2) hF (fun r N h => ?_)
  obtain ⟨rfl, rfl⟩ := h
  rw [hz]
  exact kk
theorem r_cV2 {x1 x2 : mV} {idx a kd : Nat} (hd : decode d.2.1 pc = .ok (.invokevirtual idx, 3)) (hl0 : Cond.methodLink d.1.cls idx dj.1 ∈ mTb) (hin : Cond.instanceMethod dj.1 ∈ mTb) (hsel : Cond.selects (mRx kd) dj.1 dj.1 ∈ mTb) (hcls : dj.1.cls = mRx kd) (ha : M.1[a]? = some (kd, mNx kd)) (hk : kd < 7) (ho : mOk dj 2) (hml : 3 ≤ dj.2.2.1) (hz : dj.2.2.2.2 = (0, 0)) (hr8 : st.length ≤ 8) (hu1 : u.1 ≤ d.2.2.2.2.1) (hu2 : u.2 ≤ d.2.2.2.2.2)
    (hF : WP k dj none (0, 0) (Rt v M') 0 [(0, .inr (some a)), (1, x1), (2, x2)] [] M) (kk : WP (k + 1) d S u Q (pc + 3) lv (v.toList ++ st) M') : WP (k + 1) d S u Q pc lv (x2 :: x1 :: .inr (some a) :: st) M := by
  refine r_invV (as := [x1, x2]) hd hl0 hin hsel hcls ha hk ho (by simpa using hml) hr8 (by rw [hz]; exact hu1) (by rw [hz]; exact hu2) hF (fun r N h => ?_)
  obtain ⟨rfl, rfl⟩ := h
  rw [hz]
  exact kk
theorem r_cS2 {x1 x2 : mV} {idx : Nat} (hd : decode d.2.1 pc = .ok (.invokestatic idx, 3)) (hl0 : Cond.methodLink d.1.cls idx dj.1 ∈ mTb) (hsta : Cond.static dj.1 ∈ mTb) (ho : mOk dj 2) (hml : 2 ≤ dj.2.2.1) (hz : dj.2.2.2.2 = (0, 0)) (hr8 : st.length ≤ 8) (hu1 : u.1 ≤ d.2.2.2.2.1) (hu2 : u.2 ≤ d.2.2.2.2.2)
    (hF : WP k dj none (0, 0) (Rt v M') 0 [(0, x1), (1, x2)] [] M) (kk : WP (k + 1) d S u Q (pc + 3) lv (v.toList ++ st) M') : WP (k + 1) d S u Q pc lv (x2 :: x1 :: st) M := by
  refine r_invS (as := [x1, x2]) hd hl0 hsta ho (by simpa using hml) hr8 (by rw [hz]; exact hu1) (by rw [hz]; exact hu2) hF (fun r N h => ?_)
  obtain ⟨rfl, rfl⟩ := h
  rw [hz]
  exact kk
theorem r_cSN2 {x1 x2 : mV} {idx : Nat} (hd : decode d.2.1 pc = .ok (.invokestatic idx, 3)) (hl0 : (d.1.cls, idx, dj.1, RX5) ∈ mNest) (hsta : Cond.static dj.1 ∈ mTb) (ho : mOk dj 2) (hml : 2 ≤ dj.2.2.1) (hz : dj.2.2.2.2 = (0, 0)) (hr8 : st.length ≤ 8) (hu1 : u.1 ≤ d.2.2.2.2.1) (hu2 : u.2 ≤ d.2.2.2.2.2)
    (hF : WP k dj none (0, 0) (Rt v M') 0 [(0, x1), (1, x2)] [] M) (kk : WP (k + 1) d S u Q (pc + 3) lv (v.toList ++ st) M') : WP (k + 1) d S u Q pc lv (x2 :: x1 :: st) M := by
  refine r_invSN (as := [x1, x2]) hd hl0 hsta ho (by simpa using hml) hr8 (by rw [hz]; exact hu1) (by rw [hz]; exact hu2) hF (fun r N h => ?_)
  obtain ⟨rfl, rfl⟩ := h
  rw [hz]
  exact kk
theorem r_cV3 {x1 x2 x3 : mV} {idx a kd : Nat} (hd : decode d.2.1 pc = .ok (.invokevirtual idx, 3)) (hl0 : Cond.methodLink d.1.cls idx dj.1 ∈ mTb) (hin : Cond.instanceMethod dj.1 ∈ mTb) (hsel : Cond.selects (mRx kd) dj.1 dj.1 ∈ mTb) (hcls : dj.1.cls = mRx kd) (ha : M.1[a]? = some (kd, mNx kd)) (hk : kd < 7) (ho : mOk dj 3) (hml : 4 ≤ dj.2.2.1) (hz : dj.2.2.2.2 = (0, 0)) (hr8 : st.length ≤ 8) (hu1 : u.1 ≤ d.2.2.2.2.1) (hu2 : u.2 ≤ d.2.2.2.2.2)
    (hF : WP k dj none (0, 0) (Rt v M') 0 [(0, .inr (some a)), (1, x1), (2, x2), (3, x3)] [] M) (kk : WP (k + 1) d S u Q (pc + 3) lv (v.toList ++ st) M') : WP (k + 1) d S u Q pc lv (x3 :: x2 :: x1 :: .inr (some a) :: st) M := by
  refine r_invV (as := [x1, x2, x3]) hd hl0 hin hsel hcls ha hk ho (by simpa using hml) hr8 (by rw [hz]; exact hu1) (by rw [hz]; exact hu2) hF (fun r N h => ?_)
  obtain ⟨rfl, rfl⟩ := h
  rw [hz]
  exact kk
theorem r_cS3 {x1 x2 x3 : mV} {idx : Nat} (hd : decode d.2.1 pc = .ok (.invokestatic idx, 3)) (hl0 : Cond.methodLink d.1.cls idx dj.1 ∈ mTb) (hsta : Cond.static dj.1 ∈ mTb) (ho : mOk dj 3) (hml : 3 ≤ dj.2.2.1) (hz : dj.2.2.2.2 = (0, 0)) (hr8 : st.length ≤ 8) (hu1 : u.1 ≤ d.2.2.2.2.1) (hu2 : u.2 ≤ d.2.2.2.2.2)
    (hF : WP k dj none (0, 0) (Rt v M') 0 [(0, x1), (1, x2), (2, x3)] [] M) (kk : WP (k + 1) d S u Q (pc + 3) lv (v.toList ++ st) M') : WP (k + 1) d S u Q pc lv (x3 :: x2 :: x1 :: st) M := by
  refine r_invS (as := [x1, x2, x3]) hd hl0 hsta ho (by simpa using hml) hr8 (by rw [hz]; exact hu1) (by rw [hz]; exact hu2) hF (fun r N h => ?_)
  obtain ⟨rfl, rfl⟩ := h
  rw [hz]
  exact kk
theorem r_cSN3 {x1 x2 x3 : mV} {idx : Nat} (hd : decode d.2.1 pc = .ok (.invokestatic idx, 3)) (hl0 : (d.1.cls, idx, dj.1, RX5) ∈ mNest) (hsta : Cond.static dj.1 ∈ mTb) (ho : mOk dj 3) (hml : 3 ≤ dj.2.2.1) (hz : dj.2.2.2.2 = (0, 0)) (hr8 : st.length ≤ 8) (hu1 : u.1 ≤ d.2.2.2.2.1) (hu2 : u.2 ≤ d.2.2.2.2.2)
    (hF : WP k dj none (0, 0) (Rt v M') 0 [(0, x1), (1, x2), (2, x3)] [] M) (kk : WP (k + 1) d S u Q (pc + 3) lv (v.toList ++ st) M') : WP (k + 1) d S u Q pc lv (x3 :: x2 :: x1 :: st) M := by
  refine r_invSN (as := [x1, x2, x3]) hd hl0 hsta ho (by simpa using hml) hr8 (by rw [hz]; exact hu1) (by rw [hz]; exact hu2) hF (fun r N h => ?_)
  obtain ⟨rfl, rfl⟩ := h
  rw [hz]
  exact kk
theorem r_cV4 {x1 x2 x3 x4 : mV} {idx a kd : Nat} (hd : decode d.2.1 pc = .ok (.invokevirtual idx, 3)) (hl0 : Cond.methodLink d.1.cls idx dj.1 ∈ mTb) (hin : Cond.instanceMethod dj.1 ∈ mTb) (hsel : Cond.selects (mRx kd) dj.1 dj.1 ∈ mTb) (hcls : dj.1.cls = mRx kd) (ha : M.1[a]? = some (kd, mNx kd)) (hk : kd < 7) (ho : mOk dj 4) (hml : 5 ≤ dj.2.2.1) (hz : dj.2.2.2.2 = (0, 0)) (hr8 : st.length ≤ 8) (hu1 : u.1 ≤ d.2.2.2.2.1) (hu2 : u.2 ≤ d.2.2.2.2.2)
    (hF : WP k dj none (0, 0) (Rt v M') 0 [(0, .inr (some a)), (1, x1), (2, x2), (3, x3), (4, x4)] [] M) (kk : WP (k + 1) d S u Q (pc + 3) lv (v.toList ++ st) M') : WP (k + 1) d S u Q pc lv (x4 :: x3 :: x2 :: x1 :: .inr (some a) :: st) M := by
  refine r_invV (as := [x1, x2, x3, x4]) hd hl0 hin hsel hcls ha hk ho (by simpa using hml) hr8 (by rw [hz]; exact hu1) (by rw [hz]; exact hu2) hF (fun r N h => ?_)
  obtain ⟨rfl, rfl⟩ := h
  rw [hz]
  exact kk
theorem r_cS4 {x1 x2 x3 x4 : mV} {idx : Nat} (hd : decode d.2.1 pc = .ok (.invokestatic idx, 3)) (hl0 : Cond.methodLink d.1.cls idx dj.1 ∈ mTb) (hsta : Cond.static dj.1 ∈ mTb) (ho : mOk dj 4) (hml : 4 ≤ dj.2.2.1) (hz : dj.2.2.2.2 = (0, 0)) (hr8 : st.length ≤ 8) (hu1 : u.1 ≤ d.2.2.2.2.1) (hu2 : u.2 ≤ d.2.2.2.2.2)
    (hF : WP k dj none (0, 0) (Rt v M') 0 [(0, x1), (1, x2), (2, x3), (3, x4)] [] M) (kk : WP (k + 1) d S u Q (pc + 3) lv (v.toList ++ st) M') : WP (k + 1) d S u Q pc lv (x4 :: x3 :: x2 :: x1 :: st) M := by
  refine r_invS (as := [x1, x2, x3, x4]) hd hl0 hsta ho (by simpa using hml) hr8 (by rw [hz]; exact hu1) (by rw [hz]; exact hu2) hF (fun r N h => ?_)
  obtain ⟨rfl, rfl⟩ := h
  rw [hz]
  exact kk
theorem r_cSN4 {x1 x2 x3 x4 : mV} {idx : Nat} (hd : decode d.2.1 pc = .ok (.invokestatic idx, 3)) (hl0 : (d.1.cls, idx, dj.1, RX5) ∈ mNest) (hsta : Cond.static dj.1 ∈ mTb) (ho : mOk dj 4) (hml : 4 ≤ dj.2.2.1) (hz : dj.2.2.2.2 = (0, 0)) (hr8 : st.length ≤ 8) (hu1 : u.1 ≤ d.2.2.2.2.1) (hu2 : u.2 ≤ d.2.2.2.2.2)
    (hF : WP k dj none (0, 0) (Rt v M') 0 [(0, x1), (1, x2), (2, x3), (3, x4)] [] M) (kk : WP (k + 1) d S u Q (pc + 3) lv (v.toList ++ st) M') : WP (k + 1) d S u Q pc lv (x4 :: x3 :: x2 :: x1 :: st) M := by
  refine r_invSN (as := [x1, x2, x3, x4]) hd hl0 hsta ho (by simpa using hml) hr8 (by rw [hz]; exact hu1) (by rw [hz]; exact hu2) hF (fun r N h => ?_)
  obtain ⟨rfl, rfl⟩ := h
  rw [hz]
  exact kk
theorem r_cV5 {x1 x2 x3 x4 x5 : mV} {idx a kd : Nat} (hd : decode d.2.1 pc = .ok (.invokevirtual idx, 3)) (hl0 : Cond.methodLink d.1.cls idx dj.1 ∈ mTb) (hin : Cond.instanceMethod dj.1 ∈ mTb) (hsel : Cond.selects (mRx kd) dj.1 dj.1 ∈ mTb) (hcls : dj.1.cls = mRx kd) (ha : M.1[a]? = some (kd, mNx kd)) (hk : kd < 7) (ho : mOk dj 5) (hml : 6 ≤ dj.2.2.1) (hz : dj.2.2.2.2 = (0, 0)) (hr8 : st.length ≤ 8) (hu1 : u.1 ≤ d.2.2.2.2.1) (hu2 : u.2 ≤ d.2.2.2.2.2)
    (hF : WP k dj none (0, 0) (Rt v M') 0 [(0, .inr (some a)), (1, x1), (2, x2), (3, x3), (4, x4), (5, x5)] [] M) (kk : WP (k + 1) d S u Q (pc + 3) lv (v.toList ++ st) M') : WP (k + 1) d S u Q pc lv (x5 :: x4 :: x3 :: x2 :: x1 :: .inr (some a) :: st) M := by
  refine r_invV (as := [x1, x2, x3, x4, x5]) hd hl0 hin hsel hcls ha hk ho (by simpa using hml) hr8 (by rw [hz]; exact hu1) (by rw [hz]; exact hu2) hF (fun r N h => ?_)
  obtain ⟨rfl, rfl⟩ := h
  rw [hz]
  exact kk
theorem r_cS5 {x1 x2 x3 x4 x5 : mV} {idx : Nat} (hd : decode d.2.1 pc = .ok (.invokestatic idx, 3)) (hl0 : Cond.methodLink d.1.cls idx dj.1 ∈ mTb) (hsta : Cond.static dj.1 ∈ mTb) (ho : mOk dj 5) (hml : 5 ≤ dj.2.2.1) (hz : dj.2.2.2.2 = (0, 0)) (hr8 : st.length ≤ 8) (hu1 : u.1 ≤ d.2.2.2.2.1) (hu2 : u.2 ≤ d.2.2.2.2.2)
    (hF : WP k dj none (0, 0) (Rt v M') 0 [(0, x1), (1, x2), (2, x3), (3, x4), (4, x5)] [] M) (kk : WP (k + 1) d S u Q (pc + 3) lv (v.toList ++ st) M') : WP (k + 1) d S u Q pc lv (x5 :: x4 :: x3 :: x2 :: x1 :: st) M := by
  refine r_invS (as := [x1, x2, x3, x4, x5]) hd hl0 hsta ho (by simpa using hml) hr8 (by rw [hz]; exact hu1) (by rw [hz]; exact hu2) hF (fun r N h => ?_)
  obtain ⟨rfl, rfl⟩ := h
  rw [hz]
  exact kk
theorem r_cSN5 {x1 x2 x3 x4 x5 : mV} {idx : Nat} (hd : decode d.2.1 pc = .ok (.invokestatic idx, 3)) (hl0 : (d.1.cls, idx, dj.1, RX5) ∈ mNest) (hsta : Cond.static dj.1 ∈ mTb) (ho : mOk dj 5) (hml : 5 ≤ dj.2.2.1) (hz : dj.2.2.2.2 = (0, 0)) (hr8 : st.length ≤ 8) (hu1 : u.1 ≤ d.2.2.2.2.1) (hu2 : u.2 ≤ d.2.2.2.2.2)
    (hF : WP k dj none (0, 0) (Rt v M') 0 [(0, x1), (1, x2), (2, x3), (3, x4), (4, x5)] [] M) (kk : WP (k + 1) d S u Q (pc + 3) lv (v.toList ++ st) M') : WP (k + 1) d S u Q pc lv (x5 :: x4 :: x3 :: x2 :: x1 :: st) M := by
  refine r_invSN (as := [x1, x2, x3, x4, x5]) hd hl0 hsta ho (by simpa using hml) hr8 (by rw [hz]; exact hu1) (by rw [hz]; exact hu2) hF (fun r N h => ?_)
  obtain ⟨rfl, rfl⟩ := h
  rw [hz]
  exact kk
theorem r_cT0 {idx i : Nat} (hd : decode d.2.1 pc = .ok (.invokevirtual idx, 3)) (hl0 : Cond.methodLink d.1.cls idx dj.1 ∈ mTb) (hin : Cond.instanceMethod dj.1 ∈ mTb) (hsel : Cond.selects "java/lang/String" dj.1 dj.1 ∈ mTb) (hcls : dj.1.cls = "java/lang/String") (hi : i < 9) (ho : mOk dj 0) (hml : 1 ≤ dj.2.2.1) (hz : dj.2.2.2.2 = (0, 0)) (hr8 : st.length ≤ 8) (hu1 : u.1 ≤ d.2.2.2.2.1) (hu2 : u.2 ≤ d.2.2.2.2.2)
    (hF : WP k dj none (0, 0) (Rt v M') 0 [(0, .inr (some (1000 + i)))] [] M) (kk : WP (k + 1) d S u Q (pc + 3) lv (v.toList ++ st) M') : WP (k + 1) d S u Q pc lv (.inr (some (1000 + i)) :: st) M := by
  refine r_invT (as := []) hd hl0 hin hsel hcls hi ho (by simpa using hml) hr8 (by rw [hz]; exact hu1) (by rw [hz]; exact hu2) hF (fun r N h => ?_)
  obtain ⟨rfl, rfl⟩ := h
  rw [hz]
  exact kk
theorem r_cT1 {x1 : mV} {idx i : Nat} (hd : decode d.2.1 pc = .ok (.invokevirtual idx, 3)) (hl0 : Cond.methodLink d.1.cls idx dj.1 ∈ mTb) (hin : Cond.instanceMethod dj.1 ∈ mTb) (hsel : Cond.selects "java/lang/String" dj.1 dj.1 ∈ mTb) (hcls : dj.1.cls = "java/lang/String") (hi : i < 9) (ho : mOk dj 1) (hml : 2 ≤ dj.2.2.1) (hz : dj.2.2.2.2 = (0, 0)) (hr8 : st.length ≤ 8) (hu1 : u.1 ≤ d.2.2.2.2.1) (hu2 : u.2 ≤ d.2.2.2.2.2)
    (hF : WP k dj none (0, 0) (Rt v M') 0 [(0, .inr (some (1000 + i))), (1, x1)] [] M) (kk : WP (k + 1) d S u Q (pc + 3) lv (v.toList ++ st) M') : WP (k + 1) d S u Q pc lv (x1 :: .inr (some (1000 + i)) :: st) M := by
  refine r_invT (as := [x1]) hd hl0 hin hsel hcls hi ho (by simpa using hml) hr8 (by rw [hz]; exact hu1) (by rw [hz]; exact hu2) hF (fun r N h => ?_)
  obtain ⟨rfl, rfl⟩ := h
  rw [hz]
  exact kk
end ROWS5
