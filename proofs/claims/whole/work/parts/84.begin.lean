/-! ===== the machine at the law's entry: what of it the calculus asks ===== -/
def nwL : List Cond := flatC (Jvm.Cond.and given_1 narrow_1)
def smT (i : Nat) : Term := .string RX3 (sIdx.getD i 0)
theorem nw_ex : ∀ i : Nat, i < 9 → Cond.exactly (smT i) "java/lang/String" ∈ nwL := by decide +kernel
theorem nw_co : ∀ i : Nat, i < 9 → Cond.eq (.field (smT i) "java/lang/String" "coder" "B") (.int 0) ∈ nwL := by decide +kernel
theorem nw_ar : ∀ i : Nat, i < 9 → Cond.arrayOf (.field (smT i) "java/lang/String" "value" "[B") .byte ∈ nwL := by decide +kernel
theorem nw_le : ∀ i : Nat, i < 9 → Cond.eq (.length (.field (smT i) "java/lang/String" "value" "[B")) (.int (Int32.ofNat (sLen.getD i 0))) ∈ nwL := by decide +kernel
theorem nw_el : ∀ i : Nat, i < 9 → ∀ j : Nat, j < sLen.getD i 0 → Cond.eq (.elem (.field (smT i) "java/lang/String" "value" "[B") (.int (Int32.ofNat j))) (.int ((sByt.getD i []).getD j 0)) ∈ nwL := by decide +kernel
theorem nw_ne : ∀ i : Nat, i < 9 → ∀ j : Nat, j < 9 → i ≠ j → (Cond.not (Cond.eq (smT i) (smT j)) ∈ nwL ∨ Cond.not (Cond.eq (smT j) (smT i)) ∈ nwL) := by decide +kernel
theorem nw_cs : Cond.eq (.static "java/lang/String" "COMPACT_STRINGS" "Z") (.int 1) ∈ nwL := by decide +kernel
theorem nw_fm : Cond.isRef (.static "jdk/internal/util/Preconditions" "SIOOBE_FORMATTER" "Ljava/util/function/BiFunction;") ∈ nwL := by decide +kernel
theorem tb_at {i : Nat} {w : Cond} (h : tables_1[i]? = some w) : w ∈ lw_tbl := List.mem_append_right _ (List.mem_of_getElem? h)
theorem tb_st : ∀ i : Nat, i < 9 → Cond.stringRef RX3 (sIdx.getD i 0) (sTx.getD i "") ∈ lw_tbl := by
  intro i hi
  have h : i = 0 ∨ i = 1 ∨ i = 2 ∨ i = 3 ∨ i = 4 ∨ i = 5 ∨ i = 6 ∨ i = 7 ∨ i = 8 := by omega
  rcases h with h | h | h | h | h | h | h | h | h <;> subst h
  · exact tb_at (i := 522) (by decide +kernel)
  · exact tb_at (i := 523) (by decide +kernel)
  · exact tb_at (i := 524) (by decide +kernel)
  · exact tb_at (i := 525) (by decide +kernel)
  · exact tb_at (i := 526) (by decide +kernel)
  · exact tb_at (i := 527) (by decide +kernel)
  · exact tb_at (i := 528) (by decide +kernel)
  · exact tb_at (i := 529) (by decide +kernel)
  · exact tb_at (i := 530) (by decide +kernel)
theorem tb_ne : ∀ q ∈ mNest, Cond.methodLinkNest q.1 q.2.1 q.2.2.1 q.2.2.2 ∈ lw_tbl := by
  intro q hq
  simp only [mNest, List.mem_cons, List.not_mem_nil, or_false] at hq
  rcases hq with h | h | h | h | h | h <;> subst h
  · exact tb_at (i := 46) (by decide +kernel)
  · exact tb_at (i := 64) (by decide +kernel)
  · exact tb_at (i := 135) (by decide +kernel)
  · exact tb_at (i := 209) (by decide +kernel)
  · exact tb_at (i := 228) (by decide +kernel)
  · exact tb_at (i := 591) (by decide +kernel)
theorem mExt_0 {s : State} {args : Array Value} (hts : ∀ w ∈ lw_tbl, w.before args s = true) (hnw : ∀ w ∈ nwL, w.before args s = true) (b : Nat) : ∃ al0 : Nat → Nat, al0 2000 = b ∧ mExt al0 (fun q : Nat => s.heap.size ≤ q) s s.heap := by
  have hA : ∀ a : Nat, a < s.heap.size → ¬ (fun q : Nat => s.heap.size ≤ q) a := fun a h => Nat.not_le.mpr h
  obtain ⟨adK, adV, hS, hE⟩ := vk_Sof (args := args) (s := s) (N := 9) (tm := smT) (len := sLen) (byt := sByt) (A := fun q : Nat => s.heap.size ≤ q) (by decide +kernel) (fun i hi => hnw _ (nw_ex i hi)) (fun i hi => hnw _ (nw_co i hi)) (fun i hi => hnw _ (nw_ar i hi)) (fun i hi => hnw _ (nw_le i hi)) (fun i hi j hj => hnw _ (nw_el i hi j hj)) (fun i j hi hj hij => (nw_ne i hi j hj hij).imp (fun z => hnw _ z) (fun z => hnw _ z)) hA
  have hZ1 : va_Z "java/lang/String" "COMPACT_STRINGS" "Z" (.int 1) (fun q : Nat => s.heap.size ≤ q) s s.heap := va_Zof (hts _ (tb_at (i := 544) (by decide +kernel))) (hts _ (tb_at (i := 10) (by decide +kernel))) (va_eqi (hnw _ nw_cs)) hA
  have hZ2 : va_Zq "jdk/internal/util/Preconditions" "SIOOBE_FORMATTER" "Ljava/util/function/BiFunction;" (fun q : Nat => s.heap.size ≤ q) s s.heap := va_Zqof (hts _ (tb_at (i := 560) (by decide +kernel))) (hts _ (tb_at (i := 12) (by decide +kernel))) (hnw _ nw_fm) hA
  obtain ⟨x, hx⟩ : ∃ x : Nat, mFm x (fun q : Nat => s.heap.size ≤ q) s s.heap := by
    rcases hZ2 with h | ⟨t, h⟩
    · exact ⟨0, Or.inl h⟩
    · exact ⟨t, Or.inr h⟩
  refine ⟨fun a => if a = 2000 then b else if a = 1200 then x else if 1100 ≤ a then adV (a - 1100) else adK (a - 1000), by simp, ?_, ?_, ?_, hZ1, ?_, ?_, ?_⟩
  · exact fun q hq => va_Nw.of rfl (hts _ (tb_ne q hq))
  · intro i hi
    have e : (if 1000 + i = 2000 then b else if 1000 + i = 1200 then x else if 1100 ≤ 1000 + i then adV (1000 + i - 1100) else adK (1000 + i - 1000)) = adK i := by
      rw [if_neg (by omega), if_neg (by omega), if_neg (by omega), show 1000 + i - 1000 = i by omega]
    simp only [e]
    exact vk_R.of (hts _ (tb_st i hi)) (hE i hi)
  · refine ⟨fun i hi => ?_, fun i j hi hj e => ?_⟩
    · have e : (if 1000 + i = 2000 then b else if 1000 + i = 1200 then x else if 1100 ≤ 1000 + i then adV (1000 + i - 1100) else adK (1000 + i - 1000)) = adK i := by
        rw [if_neg (by omega), if_neg (by omega), if_neg (by omega), show 1000 + i - 1000 = i by omega]
      have e2 : (if 1100 + i = 2000 then b else if 1100 + i = 1200 then x else if 1100 ≤ 1100 + i then adV (1100 + i - 1100) else adK (1100 + i - 1000)) = adV i := by
        rw [if_neg (by omega), if_neg (by omega), if_pos (by omega), show 1100 + i - 1100 = i by omega]
      simp only [e, e2]
      exact hS.1 i hi
    · have e1 : ∀ i : Nat, i < 9 → (if 1000 + i = 2000 then b else if 1000 + i = 1200 then x else if 1100 ≤ 1000 + i then adV (1000 + i - 1100) else adK (1000 + i - 1000)) = adK i := fun i hi => by
        rw [if_neg (by omega), if_neg (by omega), if_neg (by omega), show 1000 + i - 1000 = i by omega]
      simp only [e1 i hi, e1 j hj] at e
      exact hS.2 i j hi hj e
  · simp only [show (1200 : Nat) ≠ 2000 by omega, if_true, if_false]
    exact hx
  · exact va_AO.of (hts _ (tb_at (i := 93) (by decide +kernel)))
  · exact va_AO.of (hts _ (tb_at (i := 132) (by decide +kernel)))
/-- what the tables say of each of the seven kinds and of the four kinds of array -/
theorem mK_0 {s : State} {args : Array Value} (hts : ∀ w ∈ lw_tbl, w.before args s = true) : ∃ D : va_G, va_K D vwCl (mTys D) s := by
  have htb : ∀ w ∈ mTb, w.before args s = true := fun w hw => hts w (List.mem_filter.mp hw).1
  have kn : ∀ kd : Nat, ∃ q : ClassId × (Nat → Nat), kd < 7 → u_Kn s (mRx kd) (mTx kd) (mNx kd) q.1 q.2 := by
    intro kd
    by_cases h : kd < 7
    · have hin : (Cond.instantiable (mRx kd) (mNx kd)).before args s = true := by
        have : kd = 0 ∨ kd = 1 ∨ kd = 2 ∨ kd = 3 ∨ kd = 4 ∨ kd = 5 ∨ kd = 6 := by omega
        rcases this with z | z | z | z | z | z | z <;> subst z
        · exact htb _ insRX0
        · exact htb _ insRX1
        · exact htb _ insRX2
        · exact htb _ insRX3
        · exact htb _ insRX4
        · exact htb _ insRX5
        · exact htb _ insRX6
      obtain ⟨c, i, q⟩ := u_known (C := mRx kd) (T := mTx kd) (N := mNx kd) (n := mNx kd) htb (mU h) hin
      exact ⟨(c, i), fun _ => q⟩
    · exact ⟨(0, fun _ => 0), fun z => absurd z h⟩
  obtain ⟨dd, hd⟩ := Classical.axiomOfChoice kn
  obtain ⟨ci, ki, pi, i1, i2, i3⟩ := Cond.arrayClass_spec (hts (Cond.arrayClass .int) (tb_at (i := 43) (by decide +kernel)))
  obtain ⟨cc, kc, pc, c1, c2, c3⟩ := Cond.arrayClass_spec (hts (Cond.arrayClass .char) (tb_at (i := 155) (by decide +kernel)))
  obtain ⟨n0, cn, kN, n1, n2, n3, n4, n5⟩ := Cond.arrayOver_spec (hts (Cond.arrayOver (.object RX0)) (tb_at (i := 93) (by decide +kernel)))
  obtain ⟨r0, cr, kR, r1, r2, r3, r4, r5⟩ := Cond.arrayOver_spec (hts (Cond.arrayOver (.object RX2)) (tb_at (i := 132) (by decide +kernel)))
  refine ⟨(fun k => if k = 10 then ci else if k = 11 then cc else if k = 12 then cn else if k = 13 then cr else (dd k).1, fun k => (dd k).2), ?_, ?_⟩
  · intro k q hq
    match k, hq with
    | 0, hq => cases hq; exact hd 0 (by omega)
    | 1, hq => cases hq; exact hd 1 (by omega)
    | 2, hq => cases hq; exact hd 2 (by omega)
    | 3, hq => cases hq; exact hd 3 (by omega)
    | 4, hq => cases hq; exact hd 4 (by omega)
    | 5, hq => cases hq; exact hd 5 (by omega)
    | 6, hq => cases hq; exact hd 6 (by omega)
    | k + 7, hq => simp [vwCl] at hq
  · intro k q hq
    match k, hq with
    | 0, hq => cases hq; exact ⟨fun n z => ⟨fun k h => (by cases h), ki, i2, pi, i3⟩, i1⟩
    | 1, hq => cases hq; exact ⟨fun n z => ⟨fun k h => (by cases h), kc, c2, pc, c3⟩, c1⟩
    | 2, hq => cases hq; exact ⟨fun n z => ⟨fun k h => (by cases h), kN, n3, n0, n4⟩, kN, n0, n3, n4, n1, n5⟩
    | 3, hq => cases hq; exact ⟨fun n z => ⟨fun k h => (by cases h), kR, r3, r0, r4⟩, kR, r0, r3, r4, r1, r5⟩
    | k + 4, hq => simp [mTys] at hq
