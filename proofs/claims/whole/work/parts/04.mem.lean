/-! ===== the pure memory: cells by logical numbers, whole numbers as Int; what the machine's heap holds of it ===== -/
abbrev mV : Type := Int ⊕ Option Nat
abbrev mM : Type := List (Nat × Nat) × (Nat → Int → Int) × (Nat → Int → Option Nat)
/-- a method: its name, bytes, locals, answer; the cells and slots that it makes -/
abbrev mD : Type := MethodName × ByteArray × Nat × Option FieldType × Nat × Nat
def mI (x : Int) : Prop := -2147483648 ≤ x ∧ x ≤ 2147483647
def mc_v (al : Nat → Nat) (v : mV) : Value := match v with
  | .inl x => .int (Int32.ofInt x)
  | .inr r => va_rf (r.map al)
def okR (n : Nat) (r : Option Nat) : Prop := ∀ a, r = some a → a < n ∨ 1000 ≤ a
def okV (n : Nat) (v : mV) : Prop := match v with
  | .inl x => mI x
  | .inr r => okR n r
def okM (M : mM) : Prop := ∀ (a : Nat) (i : Int), mI (M.2.1 a i) ∧ okR M.1.length (M.2.2 a i)
def mTy (kd : Nat) : Nat → FieldType := match kd with
  | 0 => tyX0
  | 1 => tyX1
  | 2 => tyX2
  | 3 => tyX3
  | 4 => tyX4
  | 5 => tyX5
  | _ => tyX6
def mTx (kd : Nat) : u_T := match kd with
  | 0 => TX0
  | 1 => TX1
  | 2 => TX2
  | 3 => TX3
  | 4 => TX4
  | 5 => TX5
  | _ => TX6
def mRx (kd : Nat) : String := match kd with
  | 0 => RX0
  | 1 => RX1
  | 2 => RX2
  | 3 => RX3
  | 4 => RX4
  | 5 => RX5
  | _ => RX6
def mNx (kd : Nat) : Nat := match kd with
  | 0 => 2
  | 1 => 6
  | 2 => 12
  | 3 => 4
  | 4 => 3
  | 5 => 8
  | _ => 13
def tyRef (t : FieldType) : Bool := match t with
  | .object _ => true
  | .array _ => true
  | _ => false
def mRef (kd j : Nat) : Bool := tyRef (mTy kd j)
def mFld (al : Nat → Nat) (M : mM) (kd a j : Nat) : Value := if mRef kd j = true then va_rf ((M.2.2 a j).map al) else .int (Int32.ofInt (M.2.1 a j))
def mE (D : va_G) (al : Nat → Nat) (M : mM) (kd n a : Nat) : va_E :=
  if kd < 7 then .inr (kd, (List.range n).map (mFld al M kd a))
  else if kd < 12 then .inl (D.1 kd, n, .inl (fun j => Int32.ofInt (M.2.1 a j)))
  else .inl (D.1 kd, n, .inr (.inr (.inr (.inr (fun j => (M.2.2 a j).map al)))))
def mCell (D : va_G) (al : Nat → Nat) (M : mM) (a : Nat) : va_E := match M.1[a]? with
  | some q => mE D al M q.1 q.2 a
  | none => .inr (0, [])
def mWs (D : va_G) (al : Nat → Nat) (M : mM) : va_W := (List.range M.1.length).map (fun a => (al a, mCell D al M a))
def mTys (D : va_G) : List (ClassId × FieldType) := [(D.1 10, .int), (D.1 11, .char), (D.1 12, .object RX0), (D.1 13, .object RX2)]
def fset {β : Type} (f : Int → β) (i : Int) (v : β) : Int → β := fun j => if j = i then v else f j
def mUp {β : Type} (F : Nat → Int → β) (a : Nat) (i : Int) (v : β) : Nat → Int → β := fun b => if b = a then fset (F a) i v else F b
theorem mUp_at {β : Type} (F : Nat → Int → β) (a : Nat) (i : Int) (v : β) : mUp F a i v a = fset (F a) i v := by simp [mUp]
theorem mUp_ne {β : Type} (F : Nat → Int → β) {a b : Nat} (i : Int) (v : β) (h : b ≠ a) : mUp F a i v b = F b := by simp [mUp, h]
theorem fset_at {β : Type} (f : Int → β) (i : Int) (v : β) : fset f i v i = v := by simp [fset]
theorem fset_ne {β : Type} (f : Int → β) {i j : Int} (v : β) (h : j ≠ i) : fset f i v j = f j := by simp [fset, h]
/-- numbers -/
theorem mI_toInt {x : Int} (h : mI x) : (Int32.ofInt x).toInt = x := Int32.toInt_ofInt_of_le (by have := h.1; omega) (by have := h.2; omega)
theorem mI_nat {x : Int} (h : mI x) : (Int32.ofInt x).toNatClampNeg = x.toNat := by
  show (Int32.ofInt x).toInt.toNat = x.toNat
  rw [mI_toInt h]
theorem mI_lt {x y : Int} (hx : mI x) (hy : mI y) : Int32.ofInt x < Int32.ofInt y ↔ x < y := by rw [Int32.lt_iff_toInt_lt, mI_toInt hx, mI_toInt hy]
theorem mI_le {x y : Int} (hx : mI x) (hy : mI y) : Int32.ofInt x ≤ Int32.ofInt y ↔ x ≤ y := by rw [Int32.le_iff_toInt_le, mI_toInt hx, mI_toInt hy]
theorem mI_eq {x y : Int} (hx : mI x) (hy : mI y) : Int32.ofInt x = Int32.ofInt y ↔ x = y := by
  constructor
  · intro h
    have h1 := congrArg Int32.toInt h
    rwa [mI_toInt hx, mI_toInt hy] at h1
  · intro h; rw [h]
theorem mI_of (x : Int32) : mI x.toInt := ⟨by have := x.le_toInt; omega, by have := x.toInt_lt; omega⟩
theorem mI_0 : mI 0 := ⟨by decide, by decide⟩
theorem mI_in {i : Int} {n : Nat} (hi : mI i) (h0 : 0 ≤ i) (h1 : i < n) : vp_in (Int32.ofInt i) n := by
  unfold vp_in
  rw [mI_nat hi]
  rintro (h | h)
  · have h2 := (mI_lt hi mI_0).mp h
    omega
  · omega
/-- the list of the world's cells: its places -/
theorem mWs_get {D : va_G} {al : Nat → Nat} {M : mM} {a : Nat} {q : Nat × Nat} (h : M.1[a]? = some q) : (mWs D al M)[a]? = some (al a, mE D al M q.1 q.2 a) := by
  obtain ⟨hl, hg⟩ := List.getElem?_eq_some_iff.mp h
  simp [mWs, hl, mCell, hg]
theorem mWs_len {D : va_G} {al : Nat → Nat} {M : mM} : (mWs D al M).length = M.1.length := by simp [mWs]
theorem mWs_set {D : va_G} {al : Nat → Nat} {M M' : mM} {a : Nat} {e : va_E} (hl : M'.1 = M.1) (hne : ∀ b, b ≠ a → mCell D al M' b = mCell D al M b) (he : mCell D al M' a = e) : (mWs D al M).set a (al a, e) = mWs D al M' := by
  apply List.ext_getElem?
  intro i
  rw [List.getElem?_set, mWs_len]
  by_cases hi : a = i
  · subst hi
    rw [if_pos rfl]
    by_cases ha : a < M.1.length
    · rw [if_pos ha]
      simp [mWs, hl, ha, he]
    · rw [if_neg ha]
      symm
      apply List.getElem?_eq_none
      rw [mWs_len, hl]; omega
  · rw [if_neg hi]
    simp only [mWs, List.getElem?_map, hl]
    by_cases ha : i < M.1.length
    · simp [ha, hne i (fun h => hi h.symm)]
    · simp [ha]
theorem mc_congr {al al' : Nat → Nat} {n : Nat} (h : ∀ a, a < n ∨ 1000 ≤ a → al' a = al a) {r : Option Nat} (hr : okR n r) : r.map al' = r.map al := by
  cases r with
  | none => rfl
  | some a => simp [h a (hr a rfl)]
theorem mc_v_congr {al al' : Nat → Nat} {n : Nat} (h : ∀ a, a < n ∨ 1000 ≤ a → al' a = al a) {v : mV} (hv : okV n v) : mc_v al' v = mc_v al v := by
  cases v with
  | inl x => rfl
  | inr r => simp [mc_v, mc_congr h hv]
theorem mE_congr {D : va_G} {al al' : Nat → Nat} {M : mM} {n0 : Nat} (h : ∀ a, a < n0 ∨ 1000 ≤ a → al' a = al a) {a : Nat} (hM : ∀ i : Int, okR n0 (M.2.2 a i)) (kd n : Nat) : mE D al' M kd n a = mE D al M kd n a := by
  unfold mE
  have h1 : mFld al' M kd a = mFld al M kd a := by
    funext j
    unfold mFld
    rw [mc_congr h (hM j)]
  have h2 : (fun j : Nat => (M.2.2 a (j : Int)).map al') = fun j : Nat => (M.2.2 a (j : Int)).map al := by
    funext j
    rw [mc_congr h (hM j)]
  rw [h1, h2]
/-- behind 'new': one cell more -/
theorem mWs_push {D : va_G} {al : Nat → Nat} {M M' : mM} {q : Nat} {kn : Nat × Nat} {e : va_E} (hal : M.1.length < 1000) (hok : okM M) (hl : M'.1 = M.1 ++ [kn]) (hI : ∀ b, b < M.1.length → M'.2.1 b = M.2.1 b ∧ M'.2.2 b = M.2.2 b)
    (he : mE D (fun a => if a = M.1.length then q else al a) M' kn.1 kn.2 M.1.length = e) : mWs D al M ++ [(q, e)] = mWs D (fun a => if a = M.1.length then q else al a) M' := by
  apply List.ext_getElem?
  intro i
  rcases Nat.lt_trichotomy i M.1.length with h | h | h
  · rw [List.getElem?_append_left (by rw [mWs_len]; exact h)]
    have h' : M'.1[i]? = M.1[i]? := by rw [hl, List.getElem?_append_left h]
    obtain ⟨k, hk⟩ : ∃ k, M.1[i]? = some k := ⟨_, List.getElem?_eq_getElem h⟩
    rw [mWs_get hk, mWs_get (h'.trans hk)]
    have hne : i ≠ M.1.length := by omega
    simp only [hne, if_false]
    congr 2
    have e1 : mE D (fun a => if a = M.1.length then q else al a) M' k.1 k.2 i = mE D (fun a => if a = M.1.length then q else al a) M k.1 k.2 i := by
      have hf : mFld (fun a => if a = M.1.length then q else al a) M' k.1 i = mFld (fun a => if a = M.1.length then q else al a) M k.1 i := by
        funext j
        unfold mFld
        rw [(hI i h).1, (hI i h).2]
      unfold mE
      rw [hf, (hI i h).1, (hI i h).2]
    rw [e1]
    symm
    refine mE_congr (n0 := M.1.length) ?_ (fun j => (hok i j).2) _ _
    intro a ha
    have : a ≠ M.1.length := by omega
    simp [this]
  · subst h
    rw [List.getElem?_append_right (by rw [mWs_len]; exact Nat.le_refl _), mWs_len]
    have h' : M'.1[M.1.length]? = some kn := by rw [hl]; simp
    rw [mWs_get h']
    simp [he]
  · rw [List.getElem?_eq_none (by rw [List.length_append, mWs_len]; simp; omega), List.getElem?_eq_none (by rw [mWs_len, hl, List.length_append]; simp; omega)]
