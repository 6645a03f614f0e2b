/-! ===== the mathematics: sets of chairs as numbers ===== -/
def bt (x : Int) (j : Nat) : Bool := (Int32.ofInt x).toBitVec.getLsbD j
theorem bt_or (x y : Int) (j : Nat) : bt (bOr x y) j = (bt x j || bt y j) := by
  unfold bt bOr
  rw [Int32.ofInt_toInt]
  simp
theorem bt_and (x y : Int) (j : Nat) : bt (bAnd x y) j = (bt x j && bt y j) := by
  unfold bt bAnd
  rw [Int32.ofInt_toInt]
  simp
theorem bt_xor (x y : Int) (j : Nat) : bt (bXor x y) j = (bt x j ^^ bt y j) := by
  unfold bt bXor
  rw [Int32.ofInt_toInt]
  simp
theorem bt_not (x : Int) (j : Nat) (hj : j < 32) : bt (bXor x (-1)) j = !bt x j := by
  rw [bt_xor]
  have : bt (-1) j = true := by
    unfold bt
    have : ∀ j : Nat, j < 32 → (Int32.ofInt (-1)).toBitVec.getLsbD j = true := by decide +kernel
    exact this j hj
  rw [this]
  cases bt x j <;> rfl
theorem bt_shl : ∀ c : Nat, c < 8 → ∀ j : Nat, j < 8 → bt (bShl 1 (c : Int)) j = decide (c = j) := by decide +kernel
theorem bt_zero : ∀ j : Nat, j < 8 → bt 0 j = false := by decide +kernel
theorem bt_at (x : Int) (j : Nat) (hj : j < 8) : bAnd (bShr x (j : Int)) 1 = if bt x j = true then 1 else 0 := by
  have h1 : bt (bShr x (j : Int)) 0 = bt x j := by
    unfold bt bShr
    rw [Int32.ofInt_toInt]
    have : ∀ j : Nat, j < 8 → ((Int32.ofInt (j : Int) &&& 31).toBitVec.smod 32).toNat = j := by decide +kernel
    rw [Int32.toBitVec_shiftRight, BitVec.sshiftRight_eq', BitVec.getLsbD_sshiftRight, this j hj]
    simp
    omega
  have h2 : ∀ k : Nat, bt (bAnd (bShr x (j : Int)) 1) k = (decide (k = 0) && bt x j) := by
    intro k
    rw [bt_and]
    by_cases hk : k = 0
    · subst hk; rw [h1]; simp [bt]
    · have : bt 1 k = false := by
        unfold bt
        show (1#32).getLsbD k = false
        simp; omega
      rw [this]; simp [hk]
  have h3 : ∀ b : Bool, bt x j = b → (Int32.ofInt (bAnd (bShr x (j : Int)) 1)) = Int32.ofInt (if b = true then 1 else 0) := by
    intro b hb
    apply Int32.toBitVec_inj.mp
    apply BitVec.eq_of_getLsbD_eq
    intro k hk
    have := h2 k
    unfold bt at this
    rw [this, show (Int32.ofInt x).toBitVec.getLsbD j = b from hb]
    cases b
    · simp
    · simp
  have h4 := congrArg Int32.toInt (h3 (bt x j) rfl)
  have h5 : (Int32.ofInt (bAnd (bShr x (j : Int)) 1)).toInt = bAnd (bShr x (j : Int)) 1 := by
    unfold bAnd
    rw [Int32.ofInt_toInt]
  rw [h5] at h4
  rw [h4]
  cases bt x j <;> rfl
