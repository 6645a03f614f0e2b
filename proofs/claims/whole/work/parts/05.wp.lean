/-! ===== WP: a calculus of weakest preconditions over the pure memory, sound over the machine ===== -/
def mTb : List Cond := lw_tbl.filter goodWord
/-- a word of the tables, by its place -/
theorem mTb_in {i : Nat} {w : Cond} (h : tables_1[i]? = some w) (hg : goodWord w = true) : w ∈ mTb := List.mem_filter.mpr ⟨List.mem_append_right _ (List.mem_of_getElem? h), hg⟩
def mRm (k : Nat) (d : mD) : Room := { frames := k, cells := d.2.2.2.2.1, slots := d.2.2.2.2.2, locals := 40 * k }
def mWd (d : mD) : List Cond := .code d.1 d.2.1 d.2.2.1 d.2.2.2.1 :: mTb
def mAgr (n : Nat) (al al0 : Nat → Nat) : Prop := ∀ a, a < n ∨ 1000 ≤ a → al a = al0 a
def mNest : List (String × Nat × MethodName × String) := [(RX2, 46, yX4_init, RX5), (RX2, 53, yX1_init, RX5), (RX5, 29, yX3_init, RX5), (RX2, 97, yX5_within, RX5), (RX2, 107, yX5_isName, RX5), (RX3, 71, yX5_within, RX5)]
def sIdx : List Nat := [34, 36, 38, 40, 42, 44, 46, 48, 50]
def sTx : List String := ["add @ @ @;", "sub @ @ @;", "mul @ @ @;", "put @ #;", "copy @ @;", "tick #;", "mark;", "keep;", "back #;"]
def sLen : List Nat := sTx.map String.length
def sByt : List (List Int32) := sTx.map (fun t => t.toList.map (fun ch => Int32.ofNat ch.toNat))
/-- a static of which is known that it holds null or a reference -/
def mFm (x : Nat) (A : Nat → Prop) (U : State) (H : Heap) : Prop := va_Z "jdk/internal/util/Preconditions" "SIOOBE_FORMATTER" "Ljava/util/function/BiFunction;" .null A U H ∨ va_Z "jdk/internal/util/Preconditions" "SIOOBE_FORMATTER" "Ljava/util/function/BiFunction;" (.ref x) A U H
theorem mFm.kept {x : Nat} {A : Nat → Prop} {U : State} {H H1 : Heap} (h : mFm x A U H) (hq : ∀ a : Nat, a < H.size → ¬ A a → H1[a]? = H[a]?) : mFm x A U H1 := h.imp (fun z => z.kept hq) (fun z => z.kept hq)
theorem mFm.narrow {x : Nat} {A B : Nat → Prop} {U : State} {H : Heap} (h : mFm x A U H) (hAB : ∀ q, B q → A q) : mFm x B U H := h.imp (fun z => z.narrow hAB) (fun z => z.narrow hAB)
theorem mFm.moved {x : Nat} {A : Nat → Prop} {u U : State} {H : Heap} (hvm : u.vm.Alike U.vm) (h : mFm x A u H) : mFm x A U H := h.imp (fun z => z.moved hvm) (fun z => z.moved hvm)
/-- what of the machine no cell of the world says: links between nest mates, the texts, two statics -/
def mExt (al : Nat → Nat) (A : Nat → Prop) (U : State) (H : Heap) : Prop :=
  (∀ q ∈ mNest, va_Nw (.methodLinkNest q.1 q.2.1 q.2.2.1 q.2.2.2) U) ∧
  (∀ i, i < 9 → vk_R RX3 (sIdx.getD i 0) (sTx.getD i "") (al (1000 + i)) U) ∧
  vk_S 9 sLen sByt (fun i => al (1000 + i)) (fun i => al (1100 + i)) A U H ∧
  va_Z "java/lang/String" "COMPACT_STRINGS" "Z" (.int 1) A U H ∧
  mFm (al 1200) A U H ∧ va_AO RX0 U ∧ va_AO RX2 U
theorem mExt.kept {al : Nat → Nat} {A : Nat → Prop} {U : State} {H H1 : Heap} (h : mExt al A U H) (hq : ∀ a : Nat, a < H.size → ¬ A a → H1[a]? = H[a]?) : mExt al A U H1 :=
  ⟨h.1, h.2.1, h.2.2.1.kept hq, h.2.2.2.1.kept hq, h.2.2.2.2.1.kept hq, h.2.2.2.2.2⟩
theorem mExt.narrow {al : Nat → Nat} {A B : Nat → Prop} {U : State} {H : Heap} (h : mExt al A U H) (hAB : ∀ q, B q → A q) : mExt al B U H :=
  ⟨h.1, h.2.1, h.2.2.1.narrow hAB, h.2.2.2.1.narrow hAB, h.2.2.2.2.1.narrow hAB, h.2.2.2.2.2⟩
theorem mExt.warm {al : Nat → Nat} {A : Nat → Prop} {s U : State} {H : Heap} (hW : s.WarmedH U.vm) (h : mExt al A s H) : mExt al A U H :=
  ⟨fun q hq => va_Nw.warmM hW (h.1 q hq), fun i hi => (h.2.1 i hi).warm hW, h.2.2.1.moved hW.alike, h.2.2.2.1.moved hW.alike, h.2.2.2.2.1.moved hW.alike, h.2.2.2.2.2.1.moved hW.alike, h.2.2.2.2.2.2.moved hW.alike⟩
theorem mExt.same {al : Nat → Nat} {A : Nat → Prop} {s U : State} {H : Heap} (hv : U.vm = s.vm) (h : mExt al A s H) : mExt al A U H :=
  ⟨fun q hq => (h.1 q hq).same rfl hv.symm, fun i hi => (h.2.1 i hi).same hv, h.2.2.1.moved (by rw [hv]; exact Vm.Alike.refl _), h.2.2.2.1.moved (by rw [hv]; exact Vm.Alike.refl _), h.2.2.2.2.1.moved (by rw [hv]; exact Vm.Alike.refl _), h.2.2.2.2.2.1.moved (by rw [hv]; exact Vm.Alike.refl _), h.2.2.2.2.2.2.moved (by rw [hv]; exact Vm.Alike.refl _)⟩
theorem mExt.agr {al al0 : Nat → Nat} {A : Nat → Prop} {U : State} {H : Heap} (ha : ∀ a, 1000 ≤ a → al a = al0 a) (h : mExt al0 A U H) : mExt al A U H := by
  obtain ⟨h1, h2, h3, h4, h5, h6⟩ := h
  have e1 : (fun i => al (1000 + i)) = fun i => al0 (1000 + i) := funext fun i => ha _ (by omega)
  have e2 : (fun i => al (1100 + i)) = fun i => al0 (1100 + i) := funext fun i => ha _ (by omega)
  exact ⟨h1, fun i hi => by rw [ha (1000 + i) (by omega)]; exact h2 i hi, by rw [e1, e2]; exact h3, h4, by rw [ha 1200 (by omega)]; exact h5, h6⟩
/-- the world in the heap -/
def mWld (D : va_G) (al : Nat → Nat) (M : mM) (A : Nat → Prop) (H0 H : Heap) (locs : List Loc) : Prop := va_P D vwCl (mWs D al M) H ∧ va_D A (mWs D al M) ∧ va_S A H0 H locs ∧ okM M ∧ M.1.length < 1000
/-- the machine, where a method stands -/
def mCx (k : Nat) (d : mD) (p : Program) (R : Room) (s : State) (m : MethodId) (meth : Method) (c : Code) (D : va_G) (al0 : Nat → Nat) (A : Nat → Prop) : Prop :=
  p.tables.exec = Jvm.exec ∧ c.code = d.2.1 ∧ meth.sig.returnType = d.2.2.2.1 ∧ c.maxLocals = d.2.2.1 ∧ s.vm.findClass d.1.cls = some m.cls ∧ (∀ w ∈ mTb, w.before #[] s = true) ∧ meth.name = d.1.name ∧ va_K D vwCl (mTys D) s ∧ mExt al0 A s s.heap ∧ (∀ q, s.heap.size ≤ q → A q) ∧ k ≤ R.frames ∧ 40 * k ≤ R.locals ∧ d.2.2.2.2.1 ≤ R.cells ∧ d.2.2.2.2.2 ≤ R.slots
/-- the law's script, which nobody writes -/
def mScr (S : Option (Nat × (Nat → Int))) (al0 : Nat → Nat) (s : State) (A : Nat → Prop) : Prop := match S with
  | none => True
  | some q => va_X (al0 2000) q.1 (fun j => Int32.ofInt (q.2 j)) s s.heap ∧ al0 2000 < s.heap.size ∧ ¬ A (al0 2000) ∧ ∀ j, mI (q.2 j)
/-- an instruction that returns r stands at pc -/
def mRt (d : mD) (pc : Nat) (r : Option mV) : Prop := match r with
  | none => decode d.2.1 pc = .ok (.return_, 1) ∧ d.2.2.2.1 = none
  | some (.inl v) => decode d.2.1 pc = .ok (.ireturn, 1) ∧ ∃ ty, d.2.2.2.1 = some ty ∧ narrow ty (.int (Int32.ofInt v)) = .int (Int32.ofInt v)
  | some (.inr _) => decode d.2.1 pc = .ok (.areturn, 1) ∧ ∃ rt, d.2.2.2.1 = some rt ∧ ((∃ n, rt = .object n) ∨ ∃ t, rt = .array t)
def mRO (n : Nat) (r : Option mV) : Prop := ∀ v, r = some v → okV n v
def mSts (al : Nat → Nat) (st : List mV) : List Value := st.map (mc_v al)
def mLvs (al : Nat → Nat) (lv : List (Nat × mV)) : List (Nat × Value) := lv.map (fun q => (q.1, mc_v al q.2))
def WP (k : Nat) (d : mD) (S : Option (Nat × (Nat → Int))) (u : Nat × Nat) (Q : Option mV → mM → Prop) (pc : Nat) (lv : List (Nat × mV)) (st : List mV) (M : mM) : Prop :=
  ∀ (p : Program) (l : Launch) (e : Env) (R : Room) (s : State) (m : MethodId) (args : Array Value) (below : List Frame) (meth : Method) (c : Code) (D : va_G) (al0 : Nat → Nat) (n0 : Nat) (A : Nat → Prop) (QS : State → Prop),
    mCx k d p R s m meth c D al0 A → mScr S al0 s A →
    (∀ (r : Option mV) (M' : mM) (al' : Nat → Nat) (H' : Heap) (locs' : List Loc) (u1 u2 : Nat) (ls' : Array Slot) (pc' : Nat), Q r M' → mAgr n0 al' al0 → n0 ≤ M'.1.length → mWld D al' M' A s.heap H' locs' → mRO M'.1.length r → u1 ≤ d.2.2.2.2.1 → u2 ≤ d.2.2.2.2.2 → mRt d pc' r → W p l e R s m args below meth c H' locs' u1 u2 QS (F0 m pc' ls' (mSts al' r.toList))) →
    ∀ (al : Nat → Nat) (H : Heap) (locs : List Loc) (ls : Array Slot), mAgr n0 al al0 → n0 ≤ M.1.length → mWld D al M A s.heap H locs → (∀ v ∈ st, okV M.1.length v) → (∀ q ∈ lv, okV M.1.length q.2) → lv_has ls d.2.2.1 (mLvs al lv) →
      W p l e R s m args below meth c H locs u.1 u.2 QS (F0 m pc ls (mSts al st))
/-- looking up a local; storing into one (the list stays in order) -/
def mLk : List (Nat × mV) → Nat → Option mV
  | [], _ => none
  | q :: t, i => bif Nat.beq q.1 i then some q.2 else mLk t i
def mPut : List (Nat × mV) → Nat → mV → List (Nat × mV)
  | [], i, v => [(i, v)]
  | q :: t, i, v => bif Nat.beq q.1 i then (i, v) :: t else bif Nat.ble i q.1 then (i, v) :: q :: t else q :: mPut t i v
theorem mLk_mem {lv : List (Nat × mV)} {i : Nat} {v : mV} (h : mLk lv i = some v) : (i, v) ∈ lv := by
  induction lv with
  | nil => cases h
  | cons q t ih =>
    unfold mLk at h
    cases hb : Nat.beq q.1 i with
    | true =>
      rw [hb] at h
      have e1 : q.1 = i := Nat.eq_of_beq_eq_true hb
      have e2 : q.2 = v := Option.some.inj h
      rw [← e1, ← e2]
      exact List.mem_cons_self
    | false =>
      rw [hb] at h
      exact List.mem_cons_of_mem _ (ih h)
/-- the list is in order: no number twice, the smaller ahead -/
theorem mPut_mem {lv : List (Nat × mV)} {i : Nat} {v : mV} {q : Nat × mV} (h : q ∈ mPut lv i v) : q = (i, v) ∨ q ∈ lv := by
  induction lv with
  | nil =>
    left
    simpa [mPut] using h
  | cons x t ih =>
    unfold mPut at h
    cases hb : Nat.beq x.1 i with
    | true =>
      rw [hb] at h
      rcases List.mem_cons.mp h with h | h
      · exact Or.inl h
      · exact Or.inr (List.mem_cons_of_mem _ h)
    | false =>
      rw [hb] at h
      cases hc : Nat.ble i x.1 with
      | true =>
        rw [hc] at h
        rcases List.mem_cons.mp h with h | h
        · exact Or.inl h
        · exact Or.inr h
      | false =>
        rw [hc] at h
        rcases List.mem_cons.mp h with h | h
        · exact Or.inr (by rw [h]; exact List.mem_cons_self)
        · rcases ih h with h | h
          · exact Or.inl h
          · exact Or.inr (List.mem_cons_of_mem _ h)
/-- keys rise: what a put leaves has no other value at its place -/
def mAsc : List (Nat × mV) → Bool
  | [] => true
  | q :: t => t.all (fun x => Nat.blt q.1 x.1) && mAsc t
theorem mPut_key {lv : List (Nat × mV)} (ha : mAsc lv = true) {i : Nat} {v : mV} {q : Nat × mV} (h : q ∈ mPut lv i v) : q = (i, v) ∨ (q ∈ lv ∧ q.1 ≠ i) := by
  induction lv with
  | nil =>
    left
    simpa [mPut] using h
  | cons x t ih =>
    simp only [mAsc, Bool.and_eq_true, List.all_eq_true, Nat.blt_eq] at ha
    unfold mPut at h
    cases hb : Nat.beq x.1 i with
    | true =>
      rw [hb] at h
      have e1 : x.1 = i := Nat.eq_of_beq_eq_true hb
      rcases List.mem_cons.mp h with h | h
      · exact Or.inl h
      · have h1 := ha.1 q h
        exact Or.inr ⟨List.mem_cons_of_mem _ h, by omega⟩
    | false =>
      have hx : x.1 ≠ i := by
        intro e1
        rw [e1] at hb
        simp at hb
      rw [hb] at h
      cases hc : Nat.ble i x.1 with
      | true =>
        rw [hc] at h
        have hle : i ≤ x.1 := Nat.le_of_ble_eq_true hc
        rcases List.mem_cons.mp h with h | h
        · exact Or.inl h
        · rcases List.mem_cons.mp h with h1 | h1
          · exact Or.inr ⟨by rw [h1]; exact List.mem_cons_self, by rw [h1]; exact hx⟩
          · have h2 := ha.1 q h1
            exact Or.inr ⟨List.mem_cons_of_mem _ h1, by omega⟩
      | false =>
        rw [hc] at h
        rcases List.mem_cons.mp h with h | h
        · exact Or.inr ⟨by rw [h]; exact List.mem_cons_self, by rw [h]; exact hx⟩
        · rcases ih ha.2 h with h | h
          · exact Or.inl h
          · exact Or.inr ⟨List.mem_cons_of_mem _ h.1, h.2⟩
theorem mc_cat (al : Nat → Nat) (v : mV) : (mc_v al v).category = 1 := by
  rcases v with x | (_ | a) <;> rfl
theorem mLv_at {al : Nat → Nat} {ls : Array Slot} {n : Nat} {lv : List (Nat × mV)} (h : lv_has ls n (mLvs al lv)) {i : Nat} {v : mV} (hv : mLk lv i = some v) : ls[i]? = some (.val (mc_v al v)) :=
  h.2.2 (i, mc_v al v) (List.mem_map.mpr ⟨(i, v), mLk_mem hv, rfl⟩)
theorem mLv_put {al : Nat → Nat} {ls : Array Slot} {n i : Nat} {lv : List (Nat × mV)} {v : mV} (ha : mAsc lv = true) (h : lv_has ls n ((i, mc_v al v) :: (mLvs al lv).filter (fun q => !(q.1 == i) && !(q.1 + 1 == i && q.2.category == 2)))) : lv_has ls n (mLvs al (mPut lv i v)) := by
  refine ⟨h.1, h.2.1, fun q hq => ?_⟩
  obtain ⟨x, hx, rfl⟩ := List.mem_map.mp hq
  rcases mPut_key ha hx with rfl | ⟨hm, hne⟩
  · exact h.2.2 _ List.mem_cons_self
  · refine h.2.2 _ (List.mem_cons_of_mem _ (List.mem_filter.mpr ⟨List.mem_map.mpr ⟨x, hm, rfl⟩, ?_⟩))
    simp [hne, mc_cat]
theorem mPut_ok {n : Nat} {lv : List (Nat × mV)} {i : Nat} {v : mV} (hl : ∀ q ∈ lv, okV n q.2) (hv : okV n v) : ∀ q ∈ mPut lv i v, okV n q.2 := fun q hq => by
  rcases mPut_mem hq with rfl | h
  · exact hv
  · exact hl q h
theorem ok_push {n : Nat} {st : List mV} {v : mV} (hv : okV n v) (h : ∀ x ∈ st, okV n x) : ∀ x ∈ v :: st, okV n x := fun x hx => by
  rcases List.mem_cons.mp hx with rfl | hx
  · exact hv
  · exact h x hx
theorem ok_tl {n : Nat} {st : List mV} {v : mV} (h : ∀ x ∈ v :: st, okV n x) : ∀ x ∈ st, okV n x := fun x hx => h x (List.mem_cons_of_mem _ hx)
theorem ok_hd {n : Nat} {st : List mV} {v : mV} (h : ∀ x ∈ v :: st, okV n x) : okV n v := h v List.mem_cons_self
theorem mB {w : Cond} {s : State} {args : Array Value} (h : w.before #[] s = true) (hg : w.onTables = true := by rfl) : w.before args s = true := va_tabs hg rfl h
theorem i2c_id {x : Int} (h0 : 0 ≤ x) (h1 : x < 65536) : ((Int32.ofInt x).toUInt32 % 65536).toInt32 = Int32.ofInt x := by
  obtain ⟨n, rfl⟩ : ∃ n : Nat, x = n := ⟨x.toNat, by omega⟩
  apply Int32.toInt_inj.mp
  have hn : n < 65536 := by omega
  rw [Int32.ofInt_eq_ofNat]
  have h2 : (Int32.ofNat n).toUInt32 = UInt32.ofNat n := rfl
  rw [h2]
  have h3 : UInt32.ofNat n % 65536 = UInt32.ofNat n := by
    apply UInt32.toNat_inj.mp
    simp [UInt32.toNat_ofNat']
    omega
  rw [h3]
  rfl
section ROWS
variable {k : Nat} {d : mD} {S : Option (Nat × (Nat → Int))} {u : Nat × Nat} {Q : Option mV → mM → Prop} {pc : Nat} {lv : List (Nat × mV)} {st : List mV} {M : mM}
/-- the answers may be weakened; locals may be forgotten -/
theorem WP.mono {Q' : Option mV → mM → Prop} (h : WP k d S u Q pc lv st M) (hq : ∀ r M', Q r M' → Q' r M') : WP k d S u Q' pc lv st M :=
  fun p l e R s m args below meth c D al0 n0 A QS C hS hret => h p l e R s m args below meth c D al0 n0 A QS C hS (fun r M' al' H' locs' u1 u2 ls' pc' hQ => hret r M' al' H' locs' u1 u2 ls' pc' (hq r M' hQ))
theorem WP.drop {lv' : List (Nat × mV)} (h : WP k d S u Q pc lv' st M) (hs : ∀ q ∈ lv', q ∈ lv) : WP k d S u Q pc lv st M :=
  fun p l e R s m args below meth c D al0 n0 A QS C hS hret al H locs ls hag hn hW hst hlv hl => h p l e R s m args below meth c D al0 n0 A QS C hS hret al H locs ls hag hn hW hst (fun q hq => hlv q (hs q hq))
    ⟨hl.1, hl.2.1, fun q hq => by
      obtain ⟨x, hx, rfl⟩ := List.mem_map.mp hq
      exact hl.2.2 _ (List.mem_map.mpr ⟨x, hs x hx, rfl⟩)⟩
def mPick (l : List (Nat × mV)) (ks : List Nat) : List (Nat × mV) := ks.filterMap (fun k => l[k]?)
theorem WP.pick {lv' : List (Nat × mV)} (ks : List Nat) (hs : mPick lv ks = lv') (h : WP k d S u Q pc lv' st M) : WP k d S u Q pc lv st M :=
  h.drop (fun q hq => by
    rw [← hs] at hq
    obtain ⟨i, -, hi⟩ := List.mem_filterMap.mp hq
    exact List.mem_of_getElem? hi)
theorem r_iconst {n : Int} (hd : decode d.2.1 pc = .ok (.iconst n, 1)) 
    (kk : WP k d S u Q (pc + 1) lv (.inl n :: st) M) (hi : mI n := by (unfold mI; decide)) : WP k d S u Q pc lv st M := by
  intro p l e R s m args below meth c D al0 n0 A QS C hS hret al H locs ls hag hn hW hst hlv hl
  have hx := C.1
  have hb := C.2.1
  exact lv_iconst hx hb hd rfl (kk p l e R s m args below meth c D al0 n0 A QS C hS hret al H locs ls hag hn hW (ok_push hi hst) hlv hl)
theorem r_bipush {n : Int} (hd : decode d.2.1 pc = .ok (.bipush n, 2)) 
    (kk : WP k d S u Q (pc + 2) lv (.inl n :: st) M) (hv : (Int8.ofInt n).toInt32 = Int32.ofInt n := by decide) (hi : mI n := by (unfold mI; decide)) : WP k d S u Q pc lv st M := by
  intro p l e R s m args below meth c D al0 n0 A QS C hS hret al H locs ls hag hn hW hst hlv hl
  have hx := C.1
  have hb := C.2.1
  exact lv_bipush hx hb hd hv (kk p l e R s m args below meth c D al0 n0 A QS C hS hret al H locs ls hag hn hW (ok_push hi hst) hlv hl)
theorem r_sipush {n : Int} (hd : decode d.2.1 pc = .ok (.sipush n, 3)) 
    (kk : WP k d S u Q (pc + 3) lv (.inl n :: st) M) (hv : (Int16.ofInt n).toInt32 = Int32.ofInt n := by decide) (hi : mI n := by (unfold mI; decide)) : WP k d S u Q pc lv st M := by
  intro p l e R s m args below meth c D al0 n0 A QS C hS hret al H locs ls hag hn hW hst hlv hl
  have hx := C.1
  have hb := C.2.1
  exact lv_sipush hx hb hd hv (kk p l e R s m args below meth c D al0 n0 A QS C hS hret al H locs ls hag hn hW (ok_push hi hst) hlv hl)
theorem r_ldc {i : Nat} {n : Int} (hw : Cond.constant d.1.cls i (Int32.ofInt n) ∈ mTb) (hd : decode d.2.1 pc = .ok (.ldc i, 2)) 
    (kk : WP k d S u Q (pc + 2) lv (.inl n :: st) M) (hi : mI n := by (unfold mI; decide)) : WP k d S u Q pc lv st M := by
  intro p l e R s m args below meth c D al0 n0 A QS C hS hret al H locs ls hag hn hW hst hlv hl
  have hx := C.1
  have hb := C.2.1
  exact lv_ldc hx hb C.2.2.2.2.1 (mB (C.2.2.2.2.2.1 _ hw)) hd (kk p l e R s m args below meth c D al0 n0 A QS C hS hret al H locs ls hag hn hW (ok_push hi hst) hlv hl)
theorem r_ldcw {i : Nat} {n : Int} (hw : Cond.constant d.1.cls i (Int32.ofInt n) ∈ mTb) (hd : decode d.2.1 pc = .ok (.ldc_w i, 3)) 
    (kk : WP k d S u Q (pc + 3) lv (.inl n :: st) M) (hi : mI n := by (unfold mI; decide)) : WP k d S u Q pc lv st M := by
  intro p l e R s m args below meth c D al0 n0 A QS C hS hret al H locs ls hag hn hW hst hlv hl
  have hx := C.1
  have hb := C.2.1
  exact lv_ldcw hx hb C.2.2.2.2.1 (mB (C.2.2.2.2.2.1 _ hw)) hd (kk p l e R s m args below meth c D al0 n0 A QS C hS hret al H locs ls hag hn hW (ok_push hi hst) hlv hl)
theorem r_iload_n {kx : Fin 4} {i : Nat} {v : Int} (hd : decode d.2.1 pc = .ok (.iload_n kx, 1)) (hi : (kx : Nat) = i) (hv : mLk lv i = some (.inl v))
    (kk : WP k d S u Q (pc + 1) lv (.inl v :: st) M) : WP k d S u Q pc lv st M := by
  intro p l e R s m args below meth c D al0 n0 A QS C hS hret al H locs ls hag hn hW hst hlv hl
  have hx := C.1
  have hb := C.2.1
  exact lv_iload_n hx hb hd hi (mLv_at hl hv) (kk p l e R s m args below meth c D al0 n0 A QS C hS hret al H locs ls hag hn hW (ok_push (hlv _ (mLk_mem hv)) hst) hlv hl)
theorem r_iload {i : Nat} {v : Int} (hd : decode d.2.1 pc = .ok (.iload i, 2))  (hv : mLk lv i = some (.inl v))
    (kk : WP k d S u Q (pc + 2) lv (.inl v :: st) M) : WP k d S u Q pc lv st M := by
  intro p l e R s m args below meth c D al0 n0 A QS C hS hret al H locs ls hag hn hW hst hlv hl
  have hx := C.1
  have hb := C.2.1
  exact lv_iload hx hb hd (mLv_at hl hv) (kk p l e R s m args below meth c D al0 n0 A QS C hS hret al H locs ls hag hn hW (ok_push (hlv _ (mLk_mem hv)) hst) hlv hl)
theorem r_aload_n {kx : Fin 4} {i : Nat} {v : Nat} (hd : decode d.2.1 pc = .ok (.aload_n kx, 1)) (hi : (kx : Nat) = i) (hv : mLk lv i = some (.inr (some v)))
    (kk : WP k d S u Q (pc + 1) lv (.inr (some v) :: st) M) : WP k d S u Q pc lv st M := by
  intro p l e R s m args below meth c D al0 n0 A QS C hS hret al H locs ls hag hn hW hst hlv hl
  have hx := C.1
  have hb := C.2.1
  exact lv_aload_n hx hb hd hi (mLv_at hl hv) (kk p l e R s m args below meth c D al0 n0 A QS C hS hret al H locs ls hag hn hW (ok_push (hlv _ (mLk_mem hv)) hst) hlv hl)
theorem r_aload {i : Nat} {v : Nat} (hd : decode d.2.1 pc = .ok (.aload i, 2))  (hv : mLk lv i = some (.inr (some v)))
    (kk : WP k d S u Q (pc + 2) lv (.inr (some v) :: st) M) : WP k d S u Q pc lv st M := by
  intro p l e R s m args below meth c D al0 n0 A QS C hS hret al H locs ls hag hn hW hst hlv hl
  have hx := C.1
  have hb := C.2.1
  exact lv_aload hx hb hd (mLv_at hl hv) (kk p l e R s m args below meth c D al0 n0 A QS C hS hret al H locs ls hag hn hW (ok_push (hlv _ (mLk_mem hv)) hst) hlv hl)
theorem r_istore_n {kx : Fin 4} {i : Nat} {v : Int} {lv' : List (Nat × mV)} (hd : decode d.2.1 pc = .ok (.istore_n kx, 1)) (hi : (kx : Nat) = i) (hn9 : i < d.2.2.1) (ha : mAsc lv = true) (hp : mPut lv i (.inl v) = lv')
    (kk : WP k d S u Q (pc + 1) lv' st M) : WP k d S u Q pc lv (.inl v :: st) M := by
  intro p l e R s m args below meth c D al0 n0 A QS C hS hret al H locs ls hag hn hW hst hlv hl
  have hx := C.1
  have hb := C.2.1
  subst hp
  exact lv_istore_n hx hb hd hi hl hn9 rfl (fun ls' hl' => kk p l e R s m args below meth c D al0 n0 A QS C hS hret al H locs ls' hag hn hW (ok_tl hst) (mPut_ok hlv (ok_hd hst)) (mLv_put ha hl'))
theorem r_istore {i : Nat} {v : Int} {lv' : List (Nat × mV)} (hd : decode d.2.1 pc = .ok (.istore i, 2))  (hn9 : i < d.2.2.1) (ha : mAsc lv = true) (hp : mPut lv i (.inl v) = lv')
    (kk : WP k d S u Q (pc + 2) lv' st M) : WP k d S u Q pc lv (.inl v :: st) M := by
  intro p l e R s m args below meth c D al0 n0 A QS C hS hret al H locs ls hag hn hW hst hlv hl
  have hx := C.1
  have hb := C.2.1
  subst hp
  exact lv_istore hx hb hd hl hn9 rfl (fun ls' hl' => kk p l e R s m args below meth c D al0 n0 A QS C hS hret al H locs ls' hag hn hW (ok_tl hst) (mPut_ok hlv (ok_hd hst)) (mLv_put ha hl'))
theorem r_astore_n {kx : Fin 4} {i : Nat} {v : Nat} {lv' : List (Nat × mV)} (hd : decode d.2.1 pc = .ok (.astore_n kx, 1)) (hi : (kx : Nat) = i) (hn9 : i < d.2.2.1) (ha : mAsc lv = true) (hp : mPut lv i (.inr (some v)) = lv')
    (kk : WP k d S u Q (pc + 1) lv' st M) : WP k d S u Q pc lv (.inr (some v) :: st) M := by
  intro p l e R s m args below meth c D al0 n0 A QS C hS hret al H locs ls hag hn hW hst hlv hl
  have hx := C.1
  have hb := C.2.1
  subst hp
  exact lv_astore_n hx hb hd hi hl hn9 rfl (fun ls' hl' => kk p l e R s m args below meth c D al0 n0 A QS C hS hret al H locs ls' hag hn hW (ok_tl hst) (mPut_ok hlv (ok_hd hst)) (mLv_put ha hl'))
theorem r_astore {i : Nat} {v : Nat} {lv' : List (Nat × mV)} (hd : decode d.2.1 pc = .ok (.astore i, 2))  (hn9 : i < d.2.2.1) (ha : mAsc lv = true) (hp : mPut lv i (.inr (some v)) = lv')
    (kk : WP k d S u Q (pc + 2) lv' st M) : WP k d S u Q pc lv (.inr (some v) :: st) M := by
  intro p l e R s m args below meth c D al0 n0 A QS C hS hret al H locs ls hag hn hW hst hlv hl
  have hx := C.1
  have hb := C.2.1
  subst hp
  exact lv_astore hx hb hd hl hn9 rfl (fun ls' hl' => kk p l e R s m args below meth c D al0 n0 A QS C hS hret al H locs ls' hag hn hW (ok_tl hst) (mPut_ok hlv (ok_hd hst)) (mLv_put ha hl'))
theorem r_iinc {i : Nat} {n v y : Int} {lv' : List (Nat × mV)} (hd : decode d.2.1 pc = .ok (.iinc i n, 3)) (hv : mLk lv i = some (.inl v)) (hn9 : i < d.2.2.1) (ha : mAsc lv = true) (hy : v + n = y) (hp : mPut lv i (.inl y) = lv')
    (kk : WP k d S u Q (pc + 3) lv' st M) (hi : mI y := by (unfold mI; omega)) : WP k d S u Q pc lv st M := by
  intro p l e R s m args below meth c D al0 n0 A QS C hS hret al H locs ls hag hn hW hst hlv hl
  have hx := C.1
  have hb := C.2.1
  subst hp
  obtain ⟨j, hj⟩ := List.mem_iff_getElem?.mp (List.mem_map.mpr ⟨(i, .inl v), mLk_mem hv, rfl⟩ : ((i, mc_v al (.inl v)) : Nat × Value) ∈ mLvs al lv)
  refine lv_iinc hx hb hd hl hj (by rw [← Int32.ofInt_add, hy]) hn9 rfl (fun ls' hl' => ?_)
  exact kk p l e R s m args below meth c D al0 n0 A QS C hS hret al H locs ls' hag hn hW hst (mPut_ok hlv hi) (mLv_put (v := .inl y) ha hl')
theorem r_iadd {x y : Int} (hd : decode d.2.1 pc = .ok (.iadd, 1))
    (kk : WP k d S u Q (pc + 1) lv (.inl (x + y) :: st) M) (hi : mI (x + y) := by (unfold mI; omega)) : WP k d S u Q pc lv (.inl y :: .inl x :: st) M := by
  intro p l e R s m args below meth c D al0 n0 A QS C hS hret al H locs ls hag hn hW hst hlv hl
  have hx := C.1
  have hb := C.2.1
  refine lv_iadd hx hb hd ?_
  have h9 := kk p l e R s m args below meth c D al0 n0 A QS C hS hret al H locs ls hag hn hW (ok_push hi (ok_tl (ok_tl hst))) hlv hl
  simp only [mSts, List.map, mc_v, Int32.ofInt_add] at h9
  exact h9
theorem r_isub {x y : Int} (hd : decode d.2.1 pc = .ok (.isub, 1))
    (kk : WP k d S u Q (pc + 1) lv (.inl (x - y) :: st) M) (hi : mI (x - y) := by (unfold mI; omega)) : WP k d S u Q pc lv (.inl y :: .inl x :: st) M := by
  intro p l e R s m args below meth c D al0 n0 A QS C hS hret al H locs ls hag hn hW hst hlv hl
  have hx := C.1
  have hb := C.2.1
  refine lv_isub hx hb hd ?_
  have h9 := kk p l e R s m args below meth c D al0 n0 A QS C hS hret al H locs ls hag hn hW (ok_push hi (ok_tl (ok_tl hst))) hlv hl
  simp only [mSts, List.map, mc_v, Int32.ofInt_sub] at h9
  exact h9
theorem r_imul {x y : Int} (hd : decode d.2.1 pc = .ok (.imul, 1))
    (kk : WP k d S u Q (pc + 1) lv (.inl (x * y) :: st) M) (hi : mI (x * y) := by (unfold mI; omega)) : WP k d S u Q pc lv (.inl y :: .inl x :: st) M := by
  intro p l e R s m args below meth c D al0 n0 A QS C hS hret al H locs ls hag hn hW hst hlv hl
  have hx := C.1
  have hb := C.2.1
  refine lv_imul hx hb hd ?_
  have h9 := kk p l e R s m args below meth c D al0 n0 A QS C hS hret al H locs ls hag hn hW (ok_push hi (ok_tl (ok_tl hst))) hlv hl
  simp only [mSts, List.map, mc_v, Int32.ofInt_mul] at h9
  exact h9
theorem mI_ofInt (x : Int32) : Int32.ofInt x.toInt = x := Int32.ofInt_toInt x
def bAnd (x y : Int) : Int := (Int32.ofInt x &&& Int32.ofInt y).toInt
theorem r_iand {x y : Int} (hd : decode d.2.1 pc = .ok (.iand, 1))
    (kk : WP k d S u Q (pc + 1) lv (.inl (bAnd x y) :: st) M) : WP k d S u Q pc lv (.inl y :: .inl x :: st) M := by
  intro p l e R s m args below meth c D al0 n0 A QS C hS hret al H locs ls hag hn hW hst hlv hl
  have hx := C.1
  have hb := C.2.1
  refine lv_iand hx hb hd ?_
  have h9 := kk p l e R s m args below meth c D al0 n0 A QS C hS hret al H locs ls hag hn hW (ok_push (mI_of _) (ok_tl (ok_tl hst))) hlv hl
  simp only [mSts, List.map, mc_v, bAnd, mI_ofInt] at h9
  exact h9
def bOr (x y : Int) : Int := (Int32.ofInt x ||| Int32.ofInt y).toInt
theorem r_ior {x y : Int} (hd : decode d.2.1 pc = .ok (.ior, 1))
    (kk : WP k d S u Q (pc + 1) lv (.inl (bOr x y) :: st) M) : WP k d S u Q pc lv (.inl y :: .inl x :: st) M := by
  intro p l e R s m args below meth c D al0 n0 A QS C hS hret al H locs ls hag hn hW hst hlv hl
  have hx := C.1
  have hb := C.2.1
  refine lv_ior hx hb hd ?_
  have h9 := kk p l e R s m args below meth c D al0 n0 A QS C hS hret al H locs ls hag hn hW (ok_push (mI_of _) (ok_tl (ok_tl hst))) hlv hl
  simp only [mSts, List.map, mc_v, bOr, mI_ofInt] at h9
  exact h9
def bXor (x y : Int) : Int := (Int32.ofInt x ^^^ Int32.ofInt y).toInt
theorem r_ixor {x y : Int} (hd : decode d.2.1 pc = .ok (.ixor, 1))
    (kk : WP k d S u Q (pc + 1) lv (.inl (bXor x y) :: st) M) : WP k d S u Q pc lv (.inl y :: .inl x :: st) M := by
  intro p l e R s m args below meth c D al0 n0 A QS C hS hret al H locs ls hag hn hW hst hlv hl
  have hx := C.1
  have hb := C.2.1
  refine lv_ixor hx hb hd ?_
  have h9 := kk p l e R s m args below meth c D al0 n0 A QS C hS hret al H locs ls hag hn hW (ok_push (mI_of _) (ok_tl (ok_tl hst))) hlv hl
  simp only [mSts, List.map, mc_v, bXor, mI_ofInt] at h9
  exact h9
def bShl (x y : Int) : Int := (Int32.ofInt x <<< (Int32.ofInt y &&& 31)).toInt
theorem r_ishl {x y : Int} (hd : decode d.2.1 pc = .ok (.ishl, 1))
    (kk : WP k d S u Q (pc + 1) lv (.inl (bShl x y) :: st) M) : WP k d S u Q pc lv (.inl y :: .inl x :: st) M := by
  intro p l e R s m args below meth c D al0 n0 A QS C hS hret al H locs ls hag hn hW hst hlv hl
  have hx := C.1
  have hb := C.2.1
  refine lv_ishl hx hb hd ?_
  have h9 := kk p l e R s m args below meth c D al0 n0 A QS C hS hret al H locs ls hag hn hW (ok_push (mI_of _) (ok_tl (ok_tl hst))) hlv hl
  simp only [mSts, List.map, mc_v, bShl, mI_ofInt] at h9
  exact h9
def bShr (x y : Int) : Int := (Int32.ofInt x >>> (Int32.ofInt y &&& 31)).toInt
theorem r_ishr {x y : Int} (hd : decode d.2.1 pc = .ok (.ishr, 1))
    (kk : WP k d S u Q (pc + 1) lv (.inl (bShr x y) :: st) M) : WP k d S u Q pc lv (.inl y :: .inl x :: st) M := by
  intro p l e R s m args below meth c D al0 n0 A QS C hS hret al H locs ls hag hn hW hst hlv hl
  have hx := C.1
  have hb := C.2.1
  refine lv_ishr hx hb hd ?_
  have h9 := kk p l e R s m args below meth c D al0 n0 A QS C hS hret al H locs ls hag hn hW (ok_push (mI_of _) (ok_tl (ok_tl hst))) hlv hl
  simp only [mSts, List.map, mc_v, bShr, mI_ofInt] at h9
  exact h9
def bUshr (x y : Int) : Int := (((Int32.ofInt x).toUInt32 >>> ((Int32.ofInt y).toUInt32 &&& Int32.toUInt32 31)).toInt32).toInt
theorem r_iushr {x y : Int} (hd : decode d.2.1 pc = .ok (.iushr, 1))
    (kk : WP k d S u Q (pc + 1) lv (.inl (bUshr x y) :: st) M) : WP k d S u Q pc lv (.inl y :: .inl x :: st) M := by
  intro p l e R s m args below meth c D al0 n0 A QS C hS hret al H locs ls hag hn hW hst hlv hl
  have hx := C.1
  have hb := C.2.1
  refine lv_iushr hx hb hd rfl ?_
  have h9 := kk p l e R s m args below meth c D al0 n0 A QS C hS hret al H locs ls hag hn hW (ok_push (mI_of _) (ok_tl (ok_tl hst))) hlv hl
  simp only [mSts, List.map, mc_v, bUshr, mI_ofInt] at h9
  exact h9
theorem r_irem {x y : Int} (hd : decode d.2.1 pc = .ok (.irem, 1)) (hne : y ≠ 0)
    (kk : WP k d S u Q (pc + 1) lv (.inl (x.tmod y) :: st) M) : WP k d S u Q pc lv (.inl y :: .inl x :: st) M := by
  intro p l e R s m args below meth c D al0 n0 A QS C hS hret al H locs ls hag hn hW hst hlv hl
  have hx := C.1
  have hb := C.2.1
  have hy : mI y := ok_hd hst
  have hx9 : mI x := ok_hd (ok_tl hst)
  have hr : (Int32.ofInt x - Int32.ofInt x / Int32.ofInt y * Int32.ofInt y).toInt = x.tmod y := by rw [rem_toInt, mI_toInt hx9, mI_toInt hy]
  refine lv_irem hx hb hd (fun h => hne ((mI_eq hy mI_0).mp h)) ?_
  have hm : mI (x.tmod y) := by rw [← hr]; exact mI_of _
  have h9 := kk p l e R s m args below meth c D al0 n0 A QS C hS hret al H locs ls hag hn hW (ok_push hm (ok_tl (ok_tl hst))) hlv hl
  have e9 : Int32.ofInt (x.tmod y) = Int32.ofInt x - Int32.ofInt x / Int32.ofInt y * Int32.ofInt y := by rw [← hr, mI_ofInt]
  simp only [mSts, List.map, mc_v, e9] at h9
  exact h9
theorem r_i2c {x : Int} (hd : decode d.2.1 pc = .ok (.i2c, 1)) (h0 : 0 ≤ x) (h1 : x < 65536)
    (kk : WP k d S u Q (pc + 1) lv (.inl x :: st) M) : WP k d S u Q pc lv (.inl x :: st) M := by
  intro p l e R s m args below meth c D al0 n0 A QS C hS hret al H locs ls hag hn hW hst hlv hl
  have hx := C.1
  have hb := C.2.1
  exact lv_i2c hx hb hd (i2c_id h0 h1) (kk p l e R s m args below meth c D al0 n0 A QS C hS hret al H locs ls hag hn hW hst hlv hl)
theorem r_dup {v : mV} (hd : decode d.2.1 pc = .ok (.dup, 1))
    (kk : WP k d S u Q (pc + 1) lv (v :: v :: st) M) : WP k d S u Q pc lv (v :: st) M := by
  intro p l e R s m args below meth c D al0 n0 A QS C hS hret al H locs ls hag hn hW hst hlv hl
  have hx := C.1
  have hb := C.2.1
  exact lv_dup hx hb hd (mc_cat _ _) (kk p l e R s m args below meth c D al0 n0 A QS C hS hret al H locs ls hag hn hW (ok_push (ok_hd hst) hst) hlv hl)
theorem r_dup2 {v v2 : mV} (hd : decode d.2.1 pc = .ok (.dup2, 1))
    (kk : WP k d S u Q (pc + 1) lv (v :: v2 :: v :: v2 :: st) M) : WP k d S u Q pc lv (v :: v2 :: st) M := by
  intro p l e R s m args below meth c D al0 n0 A QS C hS hret al H locs ls hag hn hW hst hlv hl
  have hx := C.1
  have hb := C.2.1
  exact lv_dup2_11 hx hb hd (mc_cat _ _) (mc_cat _ _) (kk p l e R s m args below meth c D al0 n0 A QS C hS hret al H locs ls hag hn hW (ok_push (ok_hd hst) (ok_push (ok_hd (ok_tl hst)) hst)) hlv hl)
theorem r_pop {v : mV} (hd : decode d.2.1 pc = .ok (.pop, 1))
    (kk : WP k d S u Q (pc + 1) lv (st) M) : WP k d S u Q pc lv (v :: st) M := by
  intro p l e R s m args below meth c D al0 n0 A QS C hS hret al H locs ls hag hn hW hst hlv hl
  have hx := C.1
  have hb := C.2.1
  exact lv_pop hx hb hd (mc_cat _ _) (kk p l e R s m args below meth c D al0 n0 A QS C hS hret al H locs ls hag hn hW (ok_tl hst) hlv hl)
theorem r_if_eq {x : Int} {off : Int} {tgt : Nat} (hd : decode d.2.1 pc = .ok (.ifCond .eq off, 3)) (ht : (pc : Int) + off = (tgt : Int))
    (kt : x = 0 → WP k d S u Q tgt lv st M) (kf : ¬ (x = 0) → WP k d S u Q (pc + 3) lv st M) : WP k d S u Q pc lv (.inl x :: st) M := by
  intro p l e R s m args below meth c D al0 n0 A QS C hS hret al H locs ls hag hn hW hst hlv hl
  have hx := C.1
  have hb := C.2.1
  have h5 : mI x := ok_hd hst
  refine lv_if_eq hx hb hd ht (fun h => kt ((mI_eq h5 mI_0).mp h) p l e R s m args below meth c D al0 n0 A QS C hS hret al H locs ls hag hn hW (ok_tl hst) hlv hl) (fun h => kf (fun q => h ((mI_eq h5 mI_0).mpr q)) p l e R s m args below meth c D al0 n0 A QS C hS hret al H locs ls hag hn hW (ok_tl hst) hlv hl)
theorem r_if_ne {x : Int} {off : Int} {tgt : Nat} (hd : decode d.2.1 pc = .ok (.ifCond .ne off, 3)) (ht : (pc : Int) + off = (tgt : Int))
    (kt : ¬ x = 0 → WP k d S u Q tgt lv st M) (kf : x = 0 → WP k d S u Q (pc + 3) lv st M) : WP k d S u Q pc lv (.inl x :: st) M := by
  intro p l e R s m args below meth c D al0 n0 A QS C hS hret al H locs ls hag hn hW hst hlv hl
  have hx := C.1
  have hb := C.2.1
  have h5 : mI x := ok_hd hst
  refine lv_if_ne hx hb hd ht (fun h => kt (fun q => h ((mI_eq h5 mI_0).mpr q)) p l e R s m args below meth c D al0 n0 A QS C hS hret al H locs ls hag hn hW (ok_tl hst) hlv hl) (fun h => kf ((mI_eq h5 mI_0).mp h) p l e R s m args below meth c D al0 n0 A QS C hS hret al H locs ls hag hn hW (ok_tl hst) hlv hl)
theorem r_if_lt {x : Int} {off : Int} {tgt : Nat} (hd : decode d.2.1 pc = .ok (.ifCond .lt off, 3)) (ht : (pc : Int) + off = (tgt : Int))
    (kt : x < 0 → WP k d S u Q tgt lv st M) (kf : ¬ (x < 0) → WP k d S u Q (pc + 3) lv st M) : WP k d S u Q pc lv (.inl x :: st) M := by
  intro p l e R s m args below meth c D al0 n0 A QS C hS hret al H locs ls hag hn hW hst hlv hl
  have hx := C.1
  have hb := C.2.1
  have h5 : mI x := ok_hd hst
  refine lv_if_lt hx hb hd ht (fun h => kt ((mI_lt h5 mI_0).mp h) p l e R s m args below meth c D al0 n0 A QS C hS hret al H locs ls hag hn hW (ok_tl hst) hlv hl) (fun h => kf (fun q => h ((mI_lt h5 mI_0).mpr q)) p l e R s m args below meth c D al0 n0 A QS C hS hret al H locs ls hag hn hW (ok_tl hst) hlv hl)
theorem r_if_ge {x : Int} {off : Int} {tgt : Nat} (hd : decode d.2.1 pc = .ok (.ifCond .ge off, 3)) (ht : (pc : Int) + off = (tgt : Int))
    (kt : 0 ≤ x → WP k d S u Q tgt lv st M) (kf : ¬ (0 ≤ x) → WP k d S u Q (pc + 3) lv st M) : WP k d S u Q pc lv (.inl x :: st) M := by
  intro p l e R s m args below meth c D al0 n0 A QS C hS hret al H locs ls hag hn hW hst hlv hl
  have hx := C.1
  have hb := C.2.1
  have h5 : mI x := ok_hd hst
  refine lv_if_ge hx hb hd ht (fun h => kt ((mI_le mI_0 h5).mp h) p l e R s m args below meth c D al0 n0 A QS C hS hret al H locs ls hag hn hW (ok_tl hst) hlv hl) (fun h => kf (fun q => h ((mI_le mI_0 h5).mpr q)) p l e R s m args below meth c D al0 n0 A QS C hS hret al H locs ls hag hn hW (ok_tl hst) hlv hl)
theorem r_if_gt {x : Int} {off : Int} {tgt : Nat} (hd : decode d.2.1 pc = .ok (.ifCond .gt off, 3)) (ht : (pc : Int) + off = (tgt : Int))
    (kt : 0 < x → WP k d S u Q tgt lv st M) (kf : ¬ (0 < x) → WP k d S u Q (pc + 3) lv st M) : WP k d S u Q pc lv (.inl x :: st) M := by
  intro p l e R s m args below meth c D al0 n0 A QS C hS hret al H locs ls hag hn hW hst hlv hl
  have hx := C.1
  have hb := C.2.1
  have h5 : mI x := ok_hd hst
  refine lv_if_gt hx hb hd ht (fun h => kt ((mI_lt mI_0 h5).mp h) p l e R s m args below meth c D al0 n0 A QS C hS hret al H locs ls hag hn hW (ok_tl hst) hlv hl) (fun h => kf (fun q => h ((mI_lt mI_0 h5).mpr q)) p l e R s m args below meth c D al0 n0 A QS C hS hret al H locs ls hag hn hW (ok_tl hst) hlv hl)
theorem r_if_le {x : Int} {off : Int} {tgt : Nat} (hd : decode d.2.1 pc = .ok (.ifCond .le off, 3)) (ht : (pc : Int) + off = (tgt : Int))
    (kt : x ≤ 0 → WP k d S u Q tgt lv st M) (kf : ¬ (x ≤ 0) → WP k d S u Q (pc + 3) lv st M) : WP k d S u Q pc lv (.inl x :: st) M := by
  intro p l e R s m args below meth c D al0 n0 A QS C hS hret al H locs ls hag hn hW hst hlv hl
  have hx := C.1
  have hb := C.2.1
  have h5 : mI x := ok_hd hst
  refine lv_if_le hx hb hd ht (fun h => kt ((mI_le h5 mI_0).mp h) p l e R s m args below meth c D al0 n0 A QS C hS hret al H locs ls hag hn hW (ok_tl hst) hlv hl) (fun h => kf (fun q => h ((mI_le h5 mI_0).mpr q)) p l e R s m args below meth c D al0 n0 A QS C hS hret al H locs ls hag hn hW (ok_tl hst) hlv hl)
theorem r_icmp_eq {x y : Int} {off : Int} {tgt : Nat} (hd : decode d.2.1 pc = .ok (.if_icmp .eq off, 3)) (ht : (pc : Int) + off = (tgt : Int))
    (kt : x = y → WP k d S u Q tgt lv st M) (kf : ¬ (x = y) → WP k d S u Q (pc + 3) lv st M) : WP k d S u Q pc lv (.inl y :: .inl x :: st) M := by
  intro p l e R s m args below meth c D al0 n0 A QS C hS hret al H locs ls hag hn hW hst hlv hl
  have hx := C.1
  have hb := C.2.1
  have h5 : mI x := ok_hd (ok_tl hst)
  have h6 : mI y := ok_hd hst
  refine lv_icmp_eq hx hb hd ht (fun h => kt ((mI_eq h5 h6).mp h) p l e R s m args below meth c D al0 n0 A QS C hS hret al H locs ls hag hn hW (ok_tl (ok_tl hst)) hlv hl) (fun h => kf (fun q => h ((mI_eq h5 h6).mpr q)) p l e R s m args below meth c D al0 n0 A QS C hS hret al H locs ls hag hn hW (ok_tl (ok_tl hst)) hlv hl)
theorem r_icmp_ne {x y : Int} {off : Int} {tgt : Nat} (hd : decode d.2.1 pc = .ok (.if_icmp .ne off, 3)) (ht : (pc : Int) + off = (tgt : Int))
    (kt : ¬ x = y → WP k d S u Q tgt lv st M) (kf : x = y → WP k d S u Q (pc + 3) lv st M) : WP k d S u Q pc lv (.inl y :: .inl x :: st) M := by
  intro p l e R s m args below meth c D al0 n0 A QS C hS hret al H locs ls hag hn hW hst hlv hl
  have hx := C.1
  have hb := C.2.1
  have h5 : mI x := ok_hd (ok_tl hst)
  have h6 : mI y := ok_hd hst
  refine lv_icmp_ne hx hb hd ht (fun h => kt (fun q => h ((mI_eq h5 h6).mpr q)) p l e R s m args below meth c D al0 n0 A QS C hS hret al H locs ls hag hn hW (ok_tl (ok_tl hst)) hlv hl) (fun h => kf ((mI_eq h5 h6).mp h) p l e R s m args below meth c D al0 n0 A QS C hS hret al H locs ls hag hn hW (ok_tl (ok_tl hst)) hlv hl)
theorem r_icmp_lt {x y : Int} {off : Int} {tgt : Nat} (hd : decode d.2.1 pc = .ok (.if_icmp .lt off, 3)) (ht : (pc : Int) + off = (tgt : Int))
    (kt : x < y → WP k d S u Q tgt lv st M) (kf : ¬ (x < y) → WP k d S u Q (pc + 3) lv st M) : WP k d S u Q pc lv (.inl y :: .inl x :: st) M := by
  intro p l e R s m args below meth c D al0 n0 A QS C hS hret al H locs ls hag hn hW hst hlv hl
  have hx := C.1
  have hb := C.2.1
  have h5 : mI x := ok_hd (ok_tl hst)
  have h6 : mI y := ok_hd hst
  refine lv_icmp_lt hx hb hd ht (fun h => kt ((mI_lt h5 h6).mp h) p l e R s m args below meth c D al0 n0 A QS C hS hret al H locs ls hag hn hW (ok_tl (ok_tl hst)) hlv hl) (fun h => kf (fun q => h ((mI_lt h5 h6).mpr q)) p l e R s m args below meth c D al0 n0 A QS C hS hret al H locs ls hag hn hW (ok_tl (ok_tl hst)) hlv hl)
theorem r_icmp_ge {x y : Int} {off : Int} {tgt : Nat} (hd : decode d.2.1 pc = .ok (.if_icmp .ge off, 3)) (ht : (pc : Int) + off = (tgt : Int))
    (kt : y ≤ x → WP k d S u Q tgt lv st M) (kf : ¬ (y ≤ x) → WP k d S u Q (pc + 3) lv st M) : WP k d S u Q pc lv (.inl y :: .inl x :: st) M := by
  intro p l e R s m args below meth c D al0 n0 A QS C hS hret al H locs ls hag hn hW hst hlv hl
  have hx := C.1
  have hb := C.2.1
  have h5 : mI x := ok_hd (ok_tl hst)
  have h6 : mI y := ok_hd hst
  refine lv_icmp_ge hx hb hd ht (fun h => kt ((mI_le h6 h5).mp h) p l e R s m args below meth c D al0 n0 A QS C hS hret al H locs ls hag hn hW (ok_tl (ok_tl hst)) hlv hl) (fun h => kf (fun q => h ((mI_le h6 h5).mpr q)) p l e R s m args below meth c D al0 n0 A QS C hS hret al H locs ls hag hn hW (ok_tl (ok_tl hst)) hlv hl)
theorem r_icmp_gt {x y : Int} {off : Int} {tgt : Nat} (hd : decode d.2.1 pc = .ok (.if_icmp .gt off, 3)) (ht : (pc : Int) + off = (tgt : Int))
    (kt : y < x → WP k d S u Q tgt lv st M) (kf : ¬ (y < x) → WP k d S u Q (pc + 3) lv st M) : WP k d S u Q pc lv (.inl y :: .inl x :: st) M := by
  intro p l e R s m args below meth c D al0 n0 A QS C hS hret al H locs ls hag hn hW hst hlv hl
  have hx := C.1
  have hb := C.2.1
  have h5 : mI x := ok_hd (ok_tl hst)
  have h6 : mI y := ok_hd hst
  refine lv_icmp_gt hx hb hd ht (fun h => kt ((mI_lt h6 h5).mp h) p l e R s m args below meth c D al0 n0 A QS C hS hret al H locs ls hag hn hW (ok_tl (ok_tl hst)) hlv hl) (fun h => kf (fun q => h ((mI_lt h6 h5).mpr q)) p l e R s m args below meth c D al0 n0 A QS C hS hret al H locs ls hag hn hW (ok_tl (ok_tl hst)) hlv hl)
theorem r_icmp_le {x y : Int} {off : Int} {tgt : Nat} (hd : decode d.2.1 pc = .ok (.if_icmp .le off, 3)) (ht : (pc : Int) + off = (tgt : Int))
    (kt : x ≤ y → WP k d S u Q tgt lv st M) (kf : ¬ (x ≤ y) → WP k d S u Q (pc + 3) lv st M) : WP k d S u Q pc lv (.inl y :: .inl x :: st) M := by
  intro p l e R s m args below meth c D al0 n0 A QS C hS hret al H locs ls hag hn hW hst hlv hl
  have hx := C.1
  have hb := C.2.1
  have h5 : mI x := ok_hd (ok_tl hst)
  have h6 : mI y := ok_hd hst
  refine lv_icmp_le hx hb hd ht (fun h => kt ((mI_le h5 h6).mp h) p l e R s m args below meth c D al0 n0 A QS C hS hret al H locs ls hag hn hW (ok_tl (ok_tl hst)) hlv hl) (fun h => kf (fun q => h ((mI_le h5 h6).mpr q)) p l e R s m args below meth c D al0 n0 A QS C hS hret al H locs ls hag hn hW (ok_tl (ok_tl hst)) hlv hl)
theorem r_goto {off : Int} {tgt : Nat} (hd : decode d.2.1 pc = .ok (.goto off, 3)) (ht : (pc : Int) + off = (tgt : Int))
    (kk : WP k d S u Q tgt lv st M) : WP k d S u Q pc lv st M := by
  intro p l e R s m args below meth c D al0 n0 A QS C hS hret al H locs ls hag hn hW hst hlv hl
  have hx := C.1
  have hb := C.2.1
  exact lv_goto hx hb hd ht (kk p l e R s m args below meth c D al0 n0 A QS C hS hret al H locs ls hag hn hW hst hlv hl)
theorem r_tableIn {dflt lo hi : Int} {offs : Array Int} {len : Nat} {x off : Int} {tgt : Nat} (hd : decode d.2.1 pc = .ok (.tableswitch dflt lo hi offs, len)) (h1 : ¬ x < lo) (h2 : ¬ hi < x) (ho : offs[(x - lo).toNat]? = some off) (ht : (pc : Int) + off = (tgt : Int))
    (kk : WP k d S u Q tgt lv st M) : WP k d S u Q pc lv (.inl x :: st) M := by
  intro p l e R s m args below meth c D al0 n0 A QS C hS hret al H locs ls hag hn hW hst hlv hl
  have hx := C.1
  have hb := C.2.1
  have h5 : mI x := ok_hd hst
  exact lv_tableIn hx hb hd (by rw [mI_toInt h5]; exact h1) (by rw [mI_toInt h5]; exact h2) (by rw [mI_toInt h5]; exact ho) ht (kk p l e R s m args below meth c D al0 n0 A QS C hS hret al H locs ls hag hn hW (ok_tl hst) hlv hl)
theorem r_tableOut {dflt lo hi : Int} {offs : Array Int} {len : Nat} {x : Int} {tgt : Nat} (hd : decode d.2.1 pc = .ok (.tableswitch dflt lo hi offs, len)) (h1 : x < lo ∨ hi < x) (ht : (pc : Int) + dflt = (tgt : Int))
    (kk : WP k d S u Q tgt lv st M) : WP k d S u Q pc lv (.inl x :: st) M := by
  intro p l e R s m args below meth c D al0 n0 A QS C hS hret al H locs ls hag hn hW hst hlv hl
  have hx := C.1
  have hb := C.2.1
  have h5 : mI x := ok_hd hst
  exact lv_tableOut hx hb hd (by rw [mI_toInt h5]; exact h1) ht (kk p l e R s m args below meth c D al0 n0 A QS C hS hret al H locs ls hag hn hW (ok_tl hst) hlv hl)
theorem r_lookup {dflt : Int} {ps : Array (Int × Int)} {len : Nat} {x off : Int} {tgt : Nat} (hd : decode d.2.1 pc = .ok (.lookupswitch dflt ps, len)) (hp : (ps.toList.zip (ps.toList.drop 1)).all (fun (a, next) => a.1 < next.1) = true) (ho : Op.lookupswitch.offset ps.toList dflt x = off) (ht : (pc : Int) + off = (tgt : Int))
    (kk : WP k d S u Q tgt lv st M) : WP k d S u Q pc lv (.inl x :: st) M := by
  intro p l e R s m args below meth c D al0 n0 A QS C hS hret al H locs ls hag hn hW hst hlv hl
  have hx := C.1
  have hb := C.2.1
  have h5 : mI x := ok_hd hst
  exact lv_lookup hx hb hd hp (by rw [mI_toInt h5]; exact ho) ht (kk p l e R s m args below meth c D al0 n0 A QS C hS hret al H locs ls hag hn hW (ok_tl hst) hlv hl)
end ROWS
