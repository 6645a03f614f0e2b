/-! ===== Room: ticks ===== -/
def arS (I : mIt) (a : Nat) (f : Int → Int) : mIt := fun x => if x = a then f else I x
theorem arS_at (I : mIt) (a : Nat) (f : Int → Int) : arS I a f a = f := if_pos rfl
theorem arS_ne (I : mIt) {a x : Nat} (f : Int → Int) (h : x ≠ a) : arS I a f x = I x := if_neg h
theorem arS_self (I : mIt) (a : Nat) : arS I a (I a) = I := by
  funext x
  unfold arS
  by_cases h : x = a
  · rw [if_pos h, h]
  · rw [if_neg h]
theorem arS_up (I : mIt) (a : Nat) (f : Int → Int) (i v : Int) : mUp (arS I a f) a i v = arS I a (fset f i v) := by
  funext x
  unfold mUp arS
  by_cases h : x = a
  · subst h; simp
  · simp [h]
/-- which orders stay (those that aren't due): how many of the first i, and the rows behind them -/
def foL (I : mIt) (b : Nat) : Nat → Nat
  | 0 => 0
  | i + 1 => if I b 1 < kOf (I (b + 7)) (I (b + 11) i) then foL I b i + 1 else foL I b i
def foM (I : mIt) (b : Nat) : Nat → mIt
  | 0 => I
  | i + 1 => if I b 1 < kOf (I (b + 7)) (I (b + 11) i) then oMove (foM I b i) (b + 10) (b + 11) (b + 12) (b + 13) (b + 14) i (foL I b i) else foM I b i
theorem foL_le (I : mIt) (b i : Nat) : foL I b i ≤ i := by
  induction i with
  | zero => exact Nat.le_refl _
  | succ i ih => unfold foL; split <;> omega
theorem oMove_ne (I : mIt) {w c f g m z : Nat} (x y : Int) (h1 : z ≠ w) (h2 : z ≠ c) (h3 : z ≠ f) (h4 : z ≠ g) (h5 : z ≠ m) : oMove I w c f g m x y z = I z := by
  unfold oMove
  split
  · rw [mUp_ne _ _ _ h5, mUp_ne _ _ _ h4, mUp_ne _ _ _ h3, mUp_ne _ _ _ h2, mUp_ne _ _ _ h1]
  · rfl
theorem foM_ne (I : mIt) {b z : Nat} (i : Nat) (h : z < b + 10 ∨ b + 14 < z) : foM I b i z = I z := by
  induction i with
  | zero => rfl
  | succ i ih =>
    unfold foM
    split
    · rw [oMove_ne _ _ _ (by omega) (by omega) (by omega) (by omega) (by omega), ih]
    · exact ih
theorem foM_hi (I : mIt) (b i : Nat) : ∀ j : Int, (i : Int) ≤ j → foM I b i (b + 11) j = I (b + 11) j := by
  induction i with
  | zero => intro j _; rfl
  | succ i ih =>
    intro j hj
    have hl := foL_le I b i
    unfold foM
    split
    · unfold oMove
      split
      · rw [mUp_ne _ _ _ (by omega), mUp_ne _ _ _ (by omega), mUp_ne _ _ _ (by omega), mUp_at, fset_ne _ _ (by omega), mUp_ne _ _ _ (by omega)]
        exact ih j (by omega)
      · exact ih j (by omega)
    · exact ih j (by omega)
def finI (I : mIt) (b n : Nat) : mIt := mUp (mUp (foM I b n) (b + 9) 0 (foL I b n : Nat)) b 2 (I b 2 + ((n : Int) - (foL I b n : Nat)))
/-- beginning: how many have begun among the first i, and the times when versions are known -/
def boS (I : mIt) (b : Nat) : Nat → Int × (Int → Int)
  | 0 => (0, I (b + 7))
  | i + 1 => if ((kOf (boS I b i).2 (I (b + 11) i) = 1000000 ∧ kOf (boS I b i).2 (I (b + 12) i) ≤ I b 1 ∧ kOf (boS I b i).2 (I (b + 13) i) ≤ I b 1) ∧ (boS I b i).1 < I (b + 1) 3) then ((boS I b i).1 + 1, if 0 ≤ I (b + 11) i ∧ I (b + 11) i < 7 then fset (boS I b i).2 (I (b + 11) i) (I b 1 + I (b + 1) (if I (b + 10) i = 2 then 1 else 0)) else (boS I b i).2) else boS I b i
theorem boS_rng (I : mIt) (b i : Nat) : 0 ≤ (boS I b i).1 ∧ (boS I b i).1 ≤ i := by
  induction i with
  | zero => simp [boS]
  | succ i ih => unfold boS; split <;> (try dsimp only) <;> omega
def begI (I : mIt) (b n : Nat) : mIt := arS I (b + 7) (boS I b n).2
def tkI (I : mIt) (b n : Nat) : mIt := begI (finI (mUp I b 1 (I b 1 + 1)) b n) b (foL (mUp I b 1 (I b 1 + 1)) b n)
def tkN (I : mIt) (b n : Nat) : Nat := foL (mUp I b 1 (I b 1 + 1)) b n
theorem finI_ne (I : mIt) {b z : Nat} (n : Nat) (h : z < b + 9 ∨ b + 14 < z) (hb : z ≠ b) : finI I b n z = I z := by
  unfold finI
  rw [mUp_ne _ _ _ hb, mUp_ne _ _ _ (by omega), foM_ne _ _ (by omega)]
theorem finI_b (I : mIt) (b n : Nat) {k : Int} (h : k ≠ 2) : finI I b n b k = I b k := by
  unfold finI
  rw [mUp_at, fset_ne _ _ h, mUp_ne _ _ _ (by omega), foM_ne _ _ (by omega)]
theorem finI_2 (I : mIt) (b n : Nat) : finI I b n b 2 = I b 2 + ((n : Int) - (foL I b n : Nat)) := by
  unfold finI
  rw [mUp_at, fset_at]
theorem finI_sz (I : mIt) (b n : Nat) : finI I b n (b + 9) 0 = (foL I b n : Nat) := by
  unfold finI
  rw [mUp_ne _ _ _ (by omega), mUp_at, fset_at]
theorem tkI_ne (I : mIt) {b z : Nat} (n : Nat) (h : z < b + 9 ∨ b + 14 < z) (hb : z ≠ b) (h7 : z ≠ b + 7) : tkI I b n z = I z := by
  unfold tkI begI
  rw [arS_ne _ _ h7, finI_ne _ _ h hb, mUp_ne _ _ _ hb]
theorem tkI_b (I : mIt) (b n : Nat) {k : Int} (h : k ≠ 2) (h1 : k ≠ 1) : tkI I b n b k = I b k := by
  unfold tkI begI
  rw [arS_ne _ _ (by omega), finI_b _ _ _ h, mUp_at, fset_ne _ _ h1]
theorem tkI_1 (I : mIt) (b n : Nat) : tkI I b n b 1 = I b 1 + 1 := by
  unfold tkI begI
  rw [arS_ne _ _ (by omega), finI_b _ _ _ (by decide), mUp_at, fset_at]
theorem tkI_2 (I : mIt) (b n : Nat) : tkI I b n b 2 = I b 2 + ((n : Int) - (tkN I b n : Nat)) := by
  unfold tkI begI tkN
  rw [arS_ne _ _ (by omega), finI_2, mUp_at, fset_ne _ _ (by decide)]
theorem tkI_sz (I : mIt) (b n : Nat) : tkI I b n (b + 9) 0 = (tkN I b n : Nat) := by
  unfold tkI begI tkN
  rw [arS_ne _ _ (by omega), finI_sz]
theorem tkN_le (I : mIt) (b n : Nat) : tkN I b n ≤ n := foL_le _ _ _
def tks (I : mIt) (b n : Nat) : Nat → mIt × Nat
  | 0 => (I, n)
  | j + 1 => (tkI (tks I b n j).1 b (tks I b n j).2, tkN (tks I b n j).1 b (tks I b n j).2)
theorem tks_sz (I : mIt) (b n : Nat) (hn : I (b + 9) 0 = n) (j : Nat) : (tks I b n j).1 (b + 9) 0 = ((tks I b n j).2 : Nat) := by
  cases j with
  | zero => exact hn
  | succ j => exact tkI_sz _ _ _
theorem tks_le (I : mIt) (b n j : Nat) : (tks I b n j).2 ≤ n := by
  induction j with
  | zero => exact Nat.le_refl _
  | succ j ih => exact Nat.le_trans (tkN_le _ _ _) ih
theorem tks_1 (I : mIt) (b n j : Nat) : (tks I b n j).1 b 1 = I b 1 + j := by
  induction j with
  | zero => simp [tks]
  | succ j ih =>
    show tkI _ _ _ b 1 = _
    rw [tkI_1, ih]; omega
theorem tks_2 (I : mIt) (b n j : Nat) : (tks I b n j).1 b 2 = I b 2 + ((n : Int) - ((tks I b n j).2 : Nat)) := by
  induction j with
  | zero => simp [tks]
  | succ j ih =>
    show tkI _ _ _ b 2 = _ + ((n : Int) - (tkN _ _ _ : Nat))
    rw [tkI_2, ih]; omega
theorem tks_b (I : mIt) (b n j : Nat) {k : Int} (h : k ≠ 2) (h1 : k ≠ 1) : (tks I b n j).1 b k = I b k := by
  induction j with
  | zero => rfl
  | succ j ih =>
    show tkI _ _ _ b k = _
    rw [tkI_b _ _ _ h h1, ih]
theorem tks_ne (I : mIt) {b z : Nat} (n j : Nat) (h : z < b + 9 ∨ b + 14 < z) (hb : z ≠ b) (h7 : z ≠ b + 7) : (tks I b n j).1 z = I z := by
  induction j with
  | zero => rfl
  | succ j ih =>
    show tkI _ _ _ z = _
    rw [tkI_ne _ _ h hb h7, ih]
/-- the first j below the bound with p, or the bound -/
def fstF (p : Nat → Bool) : Nat → Nat → Nat
  | 0, j => j
  | f + 1, j => if p j = true then j else fstF p f (j + 1)
theorem fstF_t {p : Nat → Bool} {f j : Nat} (h : p j = true) : fstF p f j = j := by
  cases f with
  | zero => rfl
  | succ f => rw [fstF, if_pos h]
def idP (I : mIt) (b n j : Nat) : Bool := decide ((tks I b n j).2 = 0)
def idV (I : mIt) (b n : Nat) : Nat := fstF (idP I b n) 1000 0
def knP (I : mIt) (b n : Nat) (name : Int) (j : Nat) : Bool := decide (¬ ((tks I b n j).1 (b + 3) name ≠ -1 ∧ ¬ kOf ((tks I b n j).1 (b + 7)) ((tks I b n j).1 (b + 3) name) ≤ (tks I b n j).1 b 1))
def knV (I : mIt) (b n : Nat) (name : Int) : Nat := fstF (knP I b n name) 1000 0
theorem tks_bd {I : mIt} {b n j : Nat} (hn6 : n ≤ 6) (h : Bd I b) (h1 : I b 1 + j ≤ 60000) (h2 : I b 2 ≤ 1999999990) : Bd (tks I b n j).1 b := by
  have hl := tks_le I b n j
  have e1 := tks_1 I b n j
  have e2 := tks_2 I b n j
  unfold Bd at h ⊢
  rw [tks_b I b n j (k := 3) (by decide) (by decide), tks_b I b n j (k := 4) (by decide) (by decide), tks_b I b n j (k := 5) (by decide) (by decide), tks_ne I n j (z := b + 1) (by omega) (by omega) (by omega)]
  omega
def ltV (I : mIt) (b n : Nat) (t : Int) : Int := if ¬ (1 ≤ t ∧ t ≤ 99) then -1 else if 50000 < I b 1 + t then -3 else (n : Int) - ((tks I b n t.toNat).2 : Nat)
def ltI (I : mIt) (b n : Nat) (t : Int) : mIt := if (1 ≤ t ∧ t ≤ 99) ∧ ¬ 50000 < I b 1 + t then (tks I b n t.toNat).1 else I
set_option maxRecDepth 20000 in
set_option maxHeartbeats 4000000 in
theorem Fn_X2_finishOrders (k : Nat) (I : mIt) (P : mPt) (b : Nat) (hR : isRm P b) (n : Nat) (hn : I (b + 9) 0 = n) (hn6 : n ≤ 6) (hB : Bd I b) (hB2 : I b 2 ≤ 1999999990) : WP (k + 1) mX2_finishOrders none (0, 0) (Rt none (lay0, finI I b n, P)) 0 [(0, .inr (some b))] [] (lay0, I, P) := by
  unfold Bd at hB
  refine r_iconst (d := mX2_finishOrders) (pc := 0) (n := 0) dX2_finishOrders_0 ?_
  refine r_istore_n (d := mX2_finishOrders) (pc := 1) (i := 1) (lv' := [(0, .inr (some b)), (1, .inl 0)]) dX2_finishOrders_1 rfl (by decide) rfl rfl ?_
  refine r_aload_n (d := mX2_finishOrders) (pc := 2) (i := 0) (v := b) dX2_finishOrders_2 rfl rfl ?_
  refine r_getRs (d := mX2_finishOrders) (pc := 3) (a := b) (kd := 2) (j := 10) (x := b + 9) dX2_finishOrders_3 flRX2_54 hR.1.1 (by decide) (by decide) rfl hR.2.1.2.2.2.1 ?_
  refine r_getIs (d := mX2_finishOrders) (pc := 6) (a := b + 9) (kd := 1) (j := 0) (x := (I (b + 9) 0)) dX2_finishOrders_6 flRX2_101 hR.2.2.2.2.1.1 (by decide) (by decide) rfl (rfl) ?_
  refine r_istore_n (d := mX2_finishOrders) (pc := 9) (i := 2) (lv' := [(0, .inr (some b)), (1, .inl 0), (2, .inl (I (b + 9) 0))]) dX2_finishOrders_9 rfl (by decide) rfl rfl ?_
  refine r_iconst (d := mX2_finishOrders) (pc := 10) (n := 0) dX2_finishOrders_10 ?_
  refine r_istore_n (d := mX2_finishOrders) (pc := 11) (i := 3) (lv' := [(0, .inr (some b)), (1, .inl 0), (2, .inl (I (b + 9) 0)), (3, .inl 0)]) dX2_finishOrders_11 rfl (by decide) rfl rfl ?_
  have L12 : ∀ j : Nat, j ≤ n → WP (k + 1) mX2_finishOrders none (0, 0) (Rt none (lay0, finI I b n, P)) 12 [(0, .inr (some b)), (1, .inl ((foL I b j : Nat) : Int)), (2, .inl (n : Int)), (3, .inl (j : Int))] [] (lay0, foM I b j, P) := by
    refine loopN (n) _ (fun j ih12 hj12 => ?_)
    have hfl := foL_le I b j
    refine r_iload_n (d := mX2_finishOrders) (pc := 12) (i := 3) (v := (j : Int)) dX2_finishOrders_12 rfl rfl ?_
    refine r_iload_n (d := mX2_finishOrders) (pc := 13) (i := 2) (v := (n : Int)) dX2_finishOrders_13 rfl rfl ?_
    refine r_icmp_ge (d := mX2_finishOrders) (pc := 14) (tgt := 64) dX2_finishOrders_14 (by decide) (fun h14 => ?_) (fun h14 => ?_)
    · refine r_aload_n (d := mX2_finishOrders) (pc := 64) (i := 0) (v := b) dX2_finishOrders_64 rfl rfl ?_
      refine r_getRs (d := mX2_finishOrders) (pc := 65) (a := b) (kd := 2) (j := 10) (x := b + 9) dX2_finishOrders_65 flRX2_54 hR.1.1 (by decide) (by decide) rfl hR.2.1.2.2.2.1 ?_
      refine r_iload_n (d := mX2_finishOrders) (pc := 68) (i := 1) (v := ((foL I b j : Nat) : Int)) dX2_finishOrders_68 rfl rfl ?_
      refine r_putIs (d := mX2_finishOrders) (pc := 69) (a := b + 9) (kd := 1) (j := 0) (lay0, mUp (foM I b j) (b + 9) 0 ((foL I b j : Nat) : Int), P) dX2_finishOrders_69 flRX2_101 hR.2.2.2.2.1.1 (by decide) (by decide) rfl rfl (Or.inl rfl) rfl ?_
      refine r_aload_n (d := mX2_finishOrders) (pc := 72) (i := 0) (v := b) dX2_finishOrders_72 rfl rfl ?_
      refine r_dup (d := mX2_finishOrders) (pc := 73) dX2_finishOrders_73 ?_
      refine r_getIs (d := mX2_finishOrders) (pc := 74) (a := b) (kd := 2) (j := 2) (x := (I b 2)) dX2_finishOrders_74 flRX2_18 hR.1.1 (by decide) (by decide) rfl (by show (mUp (foM I b j) (b + 9) 0 ((foL I b j : Nat) : Int)) b 2 = _; rw [mUp_ne _ _ _ (by omega), foM_ne _ _ (by omega)]) ?_
      refine r_iload_n (d := mX2_finishOrders) (pc := 77) (i := 2) (v := (n : Int)) dX2_finishOrders_77 rfl rfl ?_
      refine r_iload_n (d := mX2_finishOrders) (pc := 78) (i := 1) (v := ((foL I b j : Nat) : Int)) dX2_finishOrders_78 rfl rfl ?_
      refine r_isub (d := mX2_finishOrders) (pc := 79) dX2_finishOrders_79 ?_
      refine r_iadd (d := mX2_finishOrders) (pc := 80) dX2_finishOrders_80 ?_
      refine r_putIs (d := mX2_finishOrders) (pc := 81) (a := b) (kd := 2) (j := 2) (lay0, mUp (mUp (foM I b j) (b + 9) 0 ((foL I b j : Nat) : Int)) b 2 ((I b 2) + ((n : Int) - ((foL I b j : Nat) : Int))), P) dX2_finishOrders_81 flRX2_18 hR.1.1 (by decide) (by decide) rfl rfl (Or.inl rfl) rfl ?_
      exact r_ret (d := mX2_finishOrders) (pc := 84) dX2_finishOrders_84 rfl (rtV (by rw [finI, show j = n by omega])) (by decide) (by decide)
    · refine r_iload_n (d := mX2_finishOrders) (pc := 17) (i := 3) (v := (j : Int)) dX2_finishOrders_17 rfl rfl ?_
      refine r_bipush (d := mX2_finishOrders) (pc := 18) (n := 6) dX2_finishOrders_18 ?_
      refine r_icmp_ge (d := mX2_finishOrders) (pc := 20) (tgt := 64) dX2_finishOrders_20 (by decide) (fun h20 => ?_) (fun h20 => ?_)
      · refine r_aload_n (d := mX2_finishOrders) (pc := 64) (i := 0) (v := b) dX2_finishOrders_64 rfl rfl ?_
        refine r_getRs (d := mX2_finishOrders) (pc := 65) (a := b) (kd := 2) (j := 10) (x := b + 9) dX2_finishOrders_65 flRX2_54 hR.1.1 (by decide) (by decide) rfl hR.2.1.2.2.2.1 ?_
        refine r_iload_n (d := mX2_finishOrders) (pc := 68) (i := 1) (v := ((foL I b j : Nat) : Int)) dX2_finishOrders_68 rfl rfl ?_
        refine r_putIs (d := mX2_finishOrders) (pc := 69) (a := b + 9) (kd := 1) (j := 0) (lay0, mUp (foM I b j) (b + 9) 0 ((foL I b j : Nat) : Int), P) dX2_finishOrders_69 flRX2_101 hR.2.2.2.2.1.1 (by decide) (by decide) rfl rfl (Or.inl rfl) rfl ?_
        refine r_aload_n (d := mX2_finishOrders) (pc := 72) (i := 0) (v := b) dX2_finishOrders_72 rfl rfl ?_
        refine r_dup (d := mX2_finishOrders) (pc := 73) dX2_finishOrders_73 ?_
        refine r_getIs (d := mX2_finishOrders) (pc := 74) (a := b) (kd := 2) (j := 2) (x := (I b 2)) dX2_finishOrders_74 flRX2_18 hR.1.1 (by decide) (by decide) rfl (by show (mUp (foM I b j) (b + 9) 0 ((foL I b j : Nat) : Int)) b 2 = _; rw [mUp_ne _ _ _ (by omega), foM_ne _ _ (by omega)]) ?_
        refine r_iload_n (d := mX2_finishOrders) (pc := 77) (i := 2) (v := (n : Int)) dX2_finishOrders_77 rfl rfl ?_
        refine r_iload_n (d := mX2_finishOrders) (pc := 78) (i := 1) (v := ((foL I b j : Nat) : Int)) dX2_finishOrders_78 rfl rfl ?_
        refine r_isub (d := mX2_finishOrders) (pc := 79) dX2_finishOrders_79 ?_
        refine r_iadd (d := mX2_finishOrders) (pc := 80) dX2_finishOrders_80 ?_
        refine r_putIs (d := mX2_finishOrders) (pc := 81) (a := b) (kd := 2) (j := 2) (lay0, mUp (mUp (foM I b j) (b + 9) 0 ((foL I b j : Nat) : Int)) b 2 ((I b 2) + ((n : Int) - ((foL I b j : Nat) : Int))), P) dX2_finishOrders_81 flRX2_18 hR.1.1 (by decide) (by decide) rfl rfl (Or.inl rfl) rfl ?_
        exact r_ret (d := mX2_finishOrders) (pc := 84) dX2_finishOrders_84 rfl (rtV (by rw [finI, show j = n by omega])) (by decide) (by decide)
      · refine r_aload_n (d := mX2_finishOrders) (pc := 23) (i := 0) (v := b) dX2_finishOrders_23 rfl rfl ?_
        refine r_getRs (d := mX2_finishOrders) (pc := 24) (a := b) (kd := 2) (j := 9) (x := b + 5) dX2_finishOrders_24 flRX2_47 hR.1.1 (by decide) (by decide) rfl hR.2.1.2.2.1 ?_
        refine r_aload_n (d := mX2_finishOrders) (pc := 27) (i := 0) (v := b) dX2_finishOrders_27 rfl rfl ?_
        refine r_getRs (d := mX2_finishOrders) (pc := 28) (a := b) (kd := 2) (j := 10) (x := b + 9) dX2_finishOrders_28 flRX2_54 hR.1.1 (by decide) (by decide) rfl hR.2.1.2.2.2.1 ?_
        refine r_getRs (d := mX2_finishOrders) (pc := 31) (a := b + 9) (kd := 1) (j := 2) (x := b + 11) dX2_finishOrders_31 flRX2_186 hR.2.2.2.2.1.1 (by decide) (by decide) rfl hR.2.2.2.2.1.2.2.2.2.2.2.2.1 ?_
        refine r_iload_n (d := mX2_finishOrders) (pc := 34) (i := 3) (v := (j : Int)) dX2_finishOrders_34 rfl rfl ?_
        refine r_ialds (d := mX2_finishOrders) (pc := 35) (a := b + 11) (x := (I (b + 11) (j : Int))) dX2_finishOrders_35 hR.2.2.2.2.1.2.2.1 (by omega) (by omega) (foM_hi I b j _ (Int.le_refl _)) ?_
        refine r_cV1 (d := mX2_finishOrders) (pc := 36) (dj := mX4_knownTimeOf) (a := b + 5) (kd := 4) dX2_finishOrders_36 mlRX2_187 inX4_knownTimeOf selX4_knownTimeOf rfl hR.2.2.2.1.1 (by decide) okX4_knownTimeOf (by decide) rfl (Nat.le_of_ble_eq_true rfl) (by decide) (by decide) (Fn_X4_knownTimeOf k (foM I b j) P (b + 5) (b + 6) (b + 7) (b + 8) hR.2.2.2.1 (I (b + 11) (j : Int))) ?_
        refine wpE (lv' := [(0, .inr (some b)), (1, .inl ((foL I b j : Nat) : Int)), (2, .inl (n : Int)), (3, .inl (j : Int))]) (st' := [.inl (kOf (I (b + 7)) (I (b + 11) (j : Int)))]) (M' := (lay0, foM I b j, P)) rfl (by rw [foM_ne _ _ (by omega)]; rfl) rfl ?_
        refine r_aload_n (d := mX2_finishOrders) (pc := 39) (i := 0) (v := b) dX2_finishOrders_39 rfl rfl ?_
        refine r_getIs (d := mX2_finishOrders) (pc := 40) (a := b) (kd := 2) (j := 1) (x := (I b 1)) dX2_finishOrders_40 flRX2_15 hR.1.1 (by decide) (by decide) rfl (by show foM I b j b 1 = _; rw [foM_ne _ _ (by omega)]) ?_
        refine r_icmp_le (d := mX2_finishOrders) (pc := 43) (tgt := 58) dX2_finishOrders_43 (by decide) (fun h43 => ?_) (fun h43 => ?_)
        · refine r_iinc (d := mX2_finishOrders) (pc := 58) (i := 3) (v := (j : Int)) (y := ((j + 1 : Nat) : Int)) (lv' := [(0, .inr (some b)), (1, .inl ((foL I b j : Nat) : Int)), (2, .inl (n : Int)), (3, .inl ((j + 1 : Nat) : Int))]) dX2_finishOrders_58 rfl (by decide) rfl (by omega) rfl ?_
          refine r_goto (d := mX2_finishOrders) (pc := 61) (tgt := 12) dX2_finishOrders_61 (by decide) ?_
          exact wpE (by rw [foL]; (first | rw [if_pos (by omega)] | rw [if_neg (by omega)]) <;> simp) rfl (by refine memE ?_; rw [foM]; first | rw [if_pos (by omega)] | rw [if_neg (by omega)]) (ih12 (by omega) (by omega))
        · refine r_aload_n (d := mX2_finishOrders) (pc := 46) (i := 0) (v := b) dX2_finishOrders_46 rfl rfl ?_
          refine r_getRs (d := mX2_finishOrders) (pc := 47) (a := b) (kd := 2) (j := 10) (x := b + 9) dX2_finishOrders_47 flRX2_54 hR.1.1 (by decide) (by decide) rfl hR.2.1.2.2.2.1 ?_
          refine r_iload_n (d := mX2_finishOrders) (pc := 50) (i := 3) (v := (j : Int)) dX2_finishOrders_50 rfl rfl ?_
          refine r_iload_n (d := mX2_finishOrders) (pc := 51) (i := 1) (v := ((foL I b j : Nat) : Int)) dX2_finishOrders_51 rfl rfl ?_
          refine r_cV2 (d := mX2_finishOrders) (pc := 52) (dj := mX1_move) (a := b + 9) (kd := 1) dX2_finishOrders_52 mlRX2_190 inX1_move selX1_move rfl hR.2.2.2.2.1.1 (by decide) okX1_move (by decide) rfl (Nat.le_of_ble_eq_true rfl) (by decide) (by decide) (Fn_X1_move k (foM I b j) P (b + 9) (b + 10) (b + 11) (b + 12) (b + 13) (b + 14) hR.2.2.2.2.1 (by omega) (by omega) (by omega) (by omega) (by omega) (j : Int) ((foL I b j : Nat) : Int)) ?_
          refine r_iinc (d := mX2_finishOrders) (pc := 55) (i := 1) (v := ((foL I b j : Nat) : Int)) (y := (((foL I b j : Nat) : Int) + 1)) (lv' := [(0, .inr (some b)), (1, .inl (((foL I b j : Nat) : Int) + 1)), (2, .inl (n : Int)), (3, .inl (j : Int))]) dX2_finishOrders_55 rfl (by decide) rfl (by omega) rfl ?_
          refine r_iinc (d := mX2_finishOrders) (pc := 58) (i := 3) (v := (j : Int)) (y := ((j + 1 : Nat) : Int)) (lv' := [(0, .inr (some b)), (1, .inl (((foL I b j : Nat) : Int) + 1)), (2, .inl (n : Int)), (3, .inl ((j + 1 : Nat) : Int))]) dX2_finishOrders_58 rfl (by decide) rfl (by omega) rfl ?_
          refine r_goto (d := mX2_finishOrders) (pc := 61) (tgt := 12) dX2_finishOrders_61 (by decide) ?_
          exact wpE (by rw [foL]; (first | rw [if_pos (by omega)] | rw [if_neg (by omega)]) <;> simp) rfl (by refine memE ?_; rw [foM]; first | rw [if_pos (by omega)] | rw [if_neg (by omega)]) (ih12 (by omega) (by omega))
  exact wpE (by simp [foL, hn]) rfl (by rfl) (L12 0 (by omega))
set_option maxRecDepth 20000 in
set_option maxHeartbeats 4000000 in
theorem Fn_X2_beginOrders (k : Nat) (I : mIt) (P : mPt) (b : Nat) (hR : isRm P b) (n : Nat) (hn : I (b + 9) 0 = n) (hn6 : n ≤ 6) (hB : Bd I b) : WP (k + 1) mX2_beginOrders none (0, 0) (Rt none (lay0, begI I b n, P)) 0 [(0, .inr (some b))] [] (lay0, I, P) := by
  unfold Bd at hB
  refine r_iconst (d := mX2_beginOrders) (pc := 0) (n := 0) dX2_beginOrders_0 ?_
  refine r_istore_n (d := mX2_beginOrders) (pc := 1) (i := 1) (lv' := [(0, .inr (some b)), (1, .inl 0)]) dX2_beginOrders_1 rfl (by decide) rfl rfl ?_
  refine r_iconst (d := mX2_beginOrders) (pc := 2) (n := 0) dX2_beginOrders_2 ?_
  refine r_istore_n (d := mX2_beginOrders) (pc := 3) (i := 2) (lv' := [(0, .inr (some b)), (1, .inl 0), (2, .inl 0)]) dX2_beginOrders_3 rfl (by decide) rfl rfl ?_
  have L4 : ∀ j : Nat, j ≤ n → WP (k + 1) mX2_beginOrders none (0, 0) (Rt none (lay0, begI I b n, P)) 4 [(0, .inr (some b)), (1, .inl ((boS I b j).1)), (2, .inl (j : Int))] [] (lay0, arS I (b + 7) (boS I b j).2, P) := by
    refine loopN (n) _ (fun j ih4 hj4 => ?_)
    have hbs := boS_rng I b j
    refine r_iload_n (d := mX2_beginOrders) (pc := 4) (i := 2) (v := (j : Int)) dX2_beginOrders_4 rfl rfl ?_
    refine r_aload_n (d := mX2_beginOrders) (pc := 5) (i := 0) (v := b) dX2_beginOrders_5 rfl rfl ?_
    refine r_getRs (d := mX2_beginOrders) (pc := 6) (a := b) (kd := 2) (j := 10) (x := b + 9) dX2_beginOrders_6 flRX2_54 hR.1.1 (by decide) (by decide) rfl hR.2.1.2.2.2.1 ?_
    refine r_getIs (d := mX2_beginOrders) (pc := 9) (a := b + 9) (kd := 1) (j := 0) (x := (I (b + 9) 0)) dX2_beginOrders_9 flRX2_101 hR.2.2.2.2.1.1 (by decide) (by decide) rfl (by show (arS I (b + 7) (boS I b j).2) (b + 9) 0 = _; rw [arS_ne _ _ (by omega)]) ?_
    refine r_icmp_ge (d := mX2_beginOrders) (pc := 12) (tgt := 169) dX2_beginOrders_12 (by decide) (fun h12 => ?_) (fun h12 => ?_)
    · exact r_ret (d := mX2_beginOrders) (pc := 169) dX2_beginOrders_169 rfl (rtV (by rw [begI, show j = n by omega])) (by decide) (by decide)
    · refine r_iload_n (d := mX2_beginOrders) (pc := 15) (i := 2) (v := (j : Int)) dX2_beginOrders_15 rfl rfl ?_
      refine r_bipush (d := mX2_beginOrders) (pc := 16) (n := 6) dX2_beginOrders_16 ?_
      refine r_icmp_ge (d := mX2_beginOrders) (pc := 18) (tgt := 169) dX2_beginOrders_18 (by decide) (fun h18 => ?_) (fun h18 => ?_)
      · exact r_ret (d := mX2_beginOrders) (pc := 169) dX2_beginOrders_169 rfl (rtV (by rw [begI, show j = n by omega])) (by decide) (by decide)
      · refine r_aload_n (d := mX2_beginOrders) (pc := 21) (i := 0) (v := b) dX2_beginOrders_21 rfl rfl ?_
        refine r_getRs (d := mX2_beginOrders) (pc := 22) (a := b) (kd := 2) (j := 10) (x := b + 9) dX2_beginOrders_22 flRX2_54 hR.1.1 (by decide) (by decide) rfl hR.2.1.2.2.2.1 ?_
        refine r_getRs (d := mX2_beginOrders) (pc := 25) (a := b + 9) (kd := 1) (j := 2) (x := b + 11) dX2_beginOrders_25 flRX2_186 hR.2.2.2.2.1.1 (by decide) (by decide) rfl hR.2.2.2.2.1.2.2.2.2.2.2.2.1 ?_
        refine r_iload_n (d := mX2_beginOrders) (pc := 28) (i := 2) (v := (j : Int)) dX2_beginOrders_28 rfl rfl ?_
        refine r_ialds (d := mX2_beginOrders) (pc := 29) (a := b + 11) (x := (I (b + 11) (j : Int))) dX2_beginOrders_29 hR.2.2.2.2.1.2.2.1 (by omega) (by omega) (by show (arS I (b + 7) (boS I b j).2) (b + 11) (j : Int) = _; rw [arS_ne _ _ (by omega)]) ?_
        refine r_istore_n (d := mX2_beginOrders) (pc := 30) (i := 3) (lv' := [(0, .inr (some b)), (1, .inl ((boS I b j).1)), (2, .inl (j : Int)), (3, .inl (I (b + 11) (j : Int)))]) dX2_beginOrders_30 rfl (by decide) rfl rfl ?_
        refine r_aload_n (d := mX2_beginOrders) (pc := 31) (i := 0) (v := b) dX2_beginOrders_31 rfl rfl ?_
        refine r_getRs (d := mX2_beginOrders) (pc := 32) (a := b) (kd := 2) (j := 9) (x := b + 5) dX2_beginOrders_32 flRX2_47 hR.1.1 (by decide) (by decide) rfl hR.2.1.2.2.1 ?_
        refine r_aload_n (d := mX2_beginOrders) (pc := 35) (i := 0) (v := b) dX2_beginOrders_35 rfl rfl ?_
        refine r_getRs (d := mX2_beginOrders) (pc := 36) (a := b) (kd := 2) (j := 10) (x := b + 9) dX2_beginOrders_36 flRX2_54 hR.1.1 (by decide) (by decide) rfl hR.2.1.2.2.2.1 ?_
        refine r_getRs (d := mX2_beginOrders) (pc := 39) (a := b + 9) (kd := 1) (j := 3) (x := b + 12) dX2_beginOrders_39 flRX2_193 hR.2.2.2.2.1.1 (by decide) (by decide) rfl hR.2.2.2.2.1.2.2.2.2.2.2.2.2.1 ?_
        refine r_iload_n (d := mX2_beginOrders) (pc := 42) (i := 2) (v := (j : Int)) dX2_beginOrders_42 rfl rfl ?_
        refine r_ialds (d := mX2_beginOrders) (pc := 43) (a := b + 12) (x := (I (b + 12) (j : Int))) dX2_beginOrders_43 hR.2.2.2.2.1.2.2.2.1 (by omega) (by omega) (by show (arS I (b + 7) (boS I b j).2) (b + 12) (j : Int) = _; rw [arS_ne _ _ (by omega)]) ?_
        refine r_cV1 (d := mX2_beginOrders) (pc := 44) (dj := mX4_knownTimeOf) (a := b + 5) (kd := 4) dX2_beginOrders_44 mlRX2_187 inX4_knownTimeOf selX4_knownTimeOf rfl hR.2.2.2.1.1 (by decide) okX4_knownTimeOf (by decide) rfl (Nat.le_of_ble_eq_true rfl) (by decide) (by decide) (Fn_X4_knownTimeOf k (arS I (b + 7) (boS I b j).2) P (b + 5) (b + 6) (b + 7) (b + 8) hR.2.2.2.1 (I (b + 12) (j : Int))) ?_
        refine wpE (lv' := [(0, .inr (some b)), (1, .inl ((boS I b j).1)), (2, .inl (j : Int)), (3, .inl (I (b + 11) (j : Int)))]) (st' := [.inl (kOf (boS I b j).2 (I (b + 12) (j : Int)))]) (M' := (lay0, arS I (b + 7) (boS I b j).2, P)) rfl (by rw [arS_at]; rfl) rfl ?_
        refine r_istore (d := mX2_beginOrders) (pc := 47) (i := 4) (lv' := [(0, .inr (some b)), (1, .inl ((boS I b j).1)), (2, .inl (j : Int)), (3, .inl (I (b + 11) (j : Int))), (4, .inl (kOf (boS I b j).2 (I (b + 12) (j : Int))))]) dX2_beginOrders_47 (by decide) rfl rfl ?_
        refine r_aload_n (d := mX2_beginOrders) (pc := 49) (i := 0) (v := b) dX2_beginOrders_49 rfl rfl ?_
        refine r_getRs (d := mX2_beginOrders) (pc := 50) (a := b) (kd := 2) (j := 9) (x := b + 5) dX2_beginOrders_50 flRX2_47 hR.1.1 (by decide) (by decide) rfl hR.2.1.2.2.1 ?_
        refine r_aload_n (d := mX2_beginOrders) (pc := 53) (i := 0) (v := b) dX2_beginOrders_53 rfl rfl ?_
        refine r_getRs (d := mX2_beginOrders) (pc := 54) (a := b) (kd := 2) (j := 10) (x := b + 9) dX2_beginOrders_54 flRX2_54 hR.1.1 (by decide) (by decide) rfl hR.2.1.2.2.2.1 ?_
        refine r_getRs (d := mX2_beginOrders) (pc := 57) (a := b + 9) (kd := 1) (j := 4) (x := b + 13) dX2_beginOrders_57 flRX2_196 hR.2.2.2.2.1.1 (by decide) (by decide) rfl hR.2.2.2.2.1.2.2.2.2.2.2.2.2.2.1 ?_
        refine r_iload_n (d := mX2_beginOrders) (pc := 60) (i := 2) (v := (j : Int)) dX2_beginOrders_60 rfl rfl ?_
        refine r_ialds (d := mX2_beginOrders) (pc := 61) (a := b + 13) (x := (I (b + 13) (j : Int))) dX2_beginOrders_61 hR.2.2.2.2.1.2.2.2.2.1 (by omega) (by omega) (by show (arS I (b + 7) (boS I b j).2) (b + 13) (j : Int) = _; rw [arS_ne _ _ (by omega)]) ?_
        refine r_cV1 (d := mX2_beginOrders) (pc := 62) (dj := mX4_knownTimeOf) (a := b + 5) (kd := 4) dX2_beginOrders_62 mlRX2_187 inX4_knownTimeOf selX4_knownTimeOf rfl hR.2.2.2.1.1 (by decide) okX4_knownTimeOf (by decide) rfl (Nat.le_of_ble_eq_true rfl) (by decide) (by decide) (Fn_X4_knownTimeOf k (arS I (b + 7) (boS I b j).2) P (b + 5) (b + 6) (b + 7) (b + 8) hR.2.2.2.1 (I (b + 13) (j : Int))) ?_
        refine wpE (lv' := [(0, .inr (some b)), (1, .inl ((boS I b j).1)), (2, .inl (j : Int)), (3, .inl (I (b + 11) (j : Int))), (4, .inl (kOf (boS I b j).2 (I (b + 12) (j : Int))))]) (st' := [.inl (kOf (boS I b j).2 (I (b + 13) (j : Int)))]) (M' := (lay0, arS I (b + 7) (boS I b j).2, P)) rfl (by rw [arS_at]; rfl) rfl ?_
        refine r_istore (d := mX2_beginOrders) (pc := 65) (i := 5) (lv' := [(0, .inr (some b)), (1, .inl ((boS I b j).1)), (2, .inl (j : Int)), (3, .inl (I (b + 11) (j : Int))), (4, .inl (kOf (boS I b j).2 (I (b + 12) (j : Int)))), (5, .inl (kOf (boS I b j).2 (I (b + 13) (j : Int))))]) dX2_beginOrders_65 (by decide) rfl rfl ?_
        refine r_aload_n (d := mX2_beginOrders) (pc := 67) (i := 0) (v := b) dX2_beginOrders_67 rfl rfl ?_
        refine r_getRs (d := mX2_beginOrders) (pc := 68) (a := b) (kd := 2) (j := 9) (x := b + 5) dX2_beginOrders_68 flRX2_47 hR.1.1 (by decide) (by decide) rfl hR.2.1.2.2.1 ?_
        refine r_iload_n (d := mX2_beginOrders) (pc := 71) (i := 3) (v := (I (b + 11) (j : Int))) dX2_beginOrders_71 rfl rfl ?_
        refine r_cV1 (d := mX2_beginOrders) (pc := 72) (dj := mX4_knownTimeOf) (a := b + 5) (kd := 4) dX2_beginOrders_72 mlRX2_187 inX4_knownTimeOf selX4_knownTimeOf rfl hR.2.2.2.1.1 (by decide) okX4_knownTimeOf (by decide) rfl (Nat.le_of_ble_eq_true rfl) (by decide) (by decide) (Fn_X4_knownTimeOf k (arS I (b + 7) (boS I b j).2) P (b + 5) (b + 6) (b + 7) (b + 8) hR.2.2.2.1 (I (b + 11) (j : Int))) ?_
        refine wpE (lv' := [(0, .inr (some b)), (1, .inl ((boS I b j).1)), (2, .inl (j : Int)), (3, .inl (I (b + 11) (j : Int))), (4, .inl (kOf (boS I b j).2 (I (b + 12) (j : Int)))), (5, .inl (kOf (boS I b j).2 (I (b + 13) (j : Int))))]) (st' := [.inl (kOf (boS I b j).2 (I (b + 11) (j : Int)))]) (M' := (lay0, arS I (b + 7) (boS I b j).2, P)) rfl (by rw [arS_at]; rfl) rfl ?_
        refine r_ldc (d := mX2_beginOrders) (pc := 75) (n := 1000000) ctRX2_132 dX2_beginOrders_75 ?_
        refine r_icmp_ne (d := mX2_beginOrders) (pc := 77) (tgt := 102) dX2_beginOrders_77 (by decide) (fun h77 => ?_) (fun h77 => ?_)
        · refine r_iconst (d := mX2_beginOrders) (pc := 102) (n := 0) dX2_beginOrders_102 ?_
          refine r_istore (d := mX2_beginOrders) (pc := 103) (i := 6) (lv' := [(0, .inr (some b)), (1, .inl ((boS I b j).1)), (2, .inl (j : Int)), (3, .inl (I (b + 11) (j : Int))), (4, .inl (kOf (boS I b j).2 (I (b + 12) (j : Int)))), (5, .inl (kOf (boS I b j).2 (I (b + 13) (j : Int)))), (6, .inl 0)]) dX2_beginOrders_103 (by decide) rfl rfl ?_
          refine r_iload (d := mX2_beginOrders) (pc := 105) (i := 6) (v := 0) dX2_beginOrders_105 rfl ?_
          refine r_if_eq (d := mX2_beginOrders) (pc := 107) (tgt := 163) dX2_beginOrders_107 (by decide) (fun _ => ?_) (fun q => absurd q (by decide))
          refine r_iinc (d := mX2_beginOrders) (pc := 163) (i := 2) (v := (j : Int)) (y := ((j + 1 : Nat) : Int)) (lv' := [(0, .inr (some b)), (1, .inl ((boS I b j).1)), (2, .inl ((j + 1 : Nat) : Int)), (3, .inl (I (b + 11) (j : Int))), (4, .inl (kOf (boS I b j).2 (I (b + 12) (j : Int)))), (5, .inl (kOf (boS I b j).2 (I (b + 13) (j : Int)))), (6, .inl 0)]) dX2_beginOrders_163 rfl (by decide) rfl (by omega) rfl ?_
          refine r_goto (d := mX2_beginOrders) (pc := 166) (tgt := 4) dX2_beginOrders_166 (by decide) ?_
          refine WP.pick (lv' := [(0, .inr (some b)), (1, .inl ((boS I b j).1)), (2, .inl ((j + 1 : Nat) : Int))]) [0, 1, 2] rfl ?_
          exact wpE (by rw [boS]; (first | rw [if_pos (by omega)] | rw [if_neg (by omega)]) <;> simp) rfl (by refine memE ?_; rw [boS]; (first | rw [if_neg (by omega)] | (rw [if_pos (by omega)]; (first | rw [if_pos h134] | rw [if_neg h134]); dsimp only; unfold vUse; split <;> first | rfl | exact arS_up _ _ _ _ _))) (ih4 (by omega) (by omega))
        · refine r_iload (d := mX2_beginOrders) (pc := 80) (i := 4) (v := kOf (boS I b j).2 (I (b + 12) (j : Int))) dX2_beginOrders_80 rfl ?_
          refine r_aload_n (d := mX2_beginOrders) (pc := 82) (i := 0) (v := b) dX2_beginOrders_82 rfl rfl ?_
          refine r_getIs (d := mX2_beginOrders) (pc := 83) (a := b) (kd := 2) (j := 1) (x := (I b 1)) dX2_beginOrders_83 flRX2_15 hR.1.1 (by decide) (by decide) rfl (by show (arS I (b + 7) (boS I b j).2) b 1 = _; rw [arS_ne _ _ (by omega)]) ?_
          refine r_icmp_gt (d := mX2_beginOrders) (pc := 86) (tgt := 102) dX2_beginOrders_86 (by decide) (fun h86 => ?_) (fun h86 => ?_)
          · refine r_iconst (d := mX2_beginOrders) (pc := 102) (n := 0) dX2_beginOrders_102 ?_
            refine r_istore (d := mX2_beginOrders) (pc := 103) (i := 6) (lv' := [(0, .inr (some b)), (1, .inl ((boS I b j).1)), (2, .inl (j : Int)), (3, .inl (I (b + 11) (j : Int))), (4, .inl (kOf (boS I b j).2 (I (b + 12) (j : Int)))), (5, .inl (kOf (boS I b j).2 (I (b + 13) (j : Int)))), (6, .inl 0)]) dX2_beginOrders_103 (by decide) rfl rfl ?_
            refine r_iload (d := mX2_beginOrders) (pc := 105) (i := 6) (v := 0) dX2_beginOrders_105 rfl ?_
            refine r_if_eq (d := mX2_beginOrders) (pc := 107) (tgt := 163) dX2_beginOrders_107 (by decide) (fun _ => ?_) (fun q => absurd q (by decide))
            refine r_iinc (d := mX2_beginOrders) (pc := 163) (i := 2) (v := (j : Int)) (y := ((j + 1 : Nat) : Int)) (lv' := [(0, .inr (some b)), (1, .inl ((boS I b j).1)), (2, .inl ((j + 1 : Nat) : Int)), (3, .inl (I (b + 11) (j : Int))), (4, .inl (kOf (boS I b j).2 (I (b + 12) (j : Int)))), (5, .inl (kOf (boS I b j).2 (I (b + 13) (j : Int)))), (6, .inl 0)]) dX2_beginOrders_163 rfl (by decide) rfl (by omega) rfl ?_
            refine r_goto (d := mX2_beginOrders) (pc := 166) (tgt := 4) dX2_beginOrders_166 (by decide) ?_
            refine WP.pick (lv' := [(0, .inr (some b)), (1, .inl ((boS I b j).1)), (2, .inl ((j + 1 : Nat) : Int))]) [0, 1, 2] rfl ?_
            exact wpE (by rw [boS]; (first | rw [if_pos (by omega)] | rw [if_neg (by omega)]) <;> simp) rfl (by refine memE ?_; rw [boS]; (first | rw [if_neg (by omega)] | (rw [if_pos (by omega)]; (first | rw [if_pos h134] | rw [if_neg h134]); dsimp only; unfold vUse; split <;> first | rfl | exact arS_up _ _ _ _ _))) (ih4 (by omega) (by omega))
          · refine r_iload (d := mX2_beginOrders) (pc := 89) (i := 5) (v := kOf (boS I b j).2 (I (b + 13) (j : Int))) dX2_beginOrders_89 rfl ?_
            refine r_aload_n (d := mX2_beginOrders) (pc := 91) (i := 0) (v := b) dX2_beginOrders_91 rfl rfl ?_
            refine r_getIs (d := mX2_beginOrders) (pc := 92) (a := b) (kd := 2) (j := 1) (x := (I b 1)) dX2_beginOrders_92 flRX2_15 hR.1.1 (by decide) (by decide) rfl (by show (arS I (b + 7) (boS I b j).2) b 1 = _; rw [arS_ne _ _ (by omega)]) ?_
            refine r_icmp_gt (d := mX2_beginOrders) (pc := 95) (tgt := 102) dX2_beginOrders_95 (by decide) (fun h95 => ?_) (fun h95 => ?_)
            · refine r_iconst (d := mX2_beginOrders) (pc := 102) (n := 0) dX2_beginOrders_102 ?_
              refine r_istore (d := mX2_beginOrders) (pc := 103) (i := 6) (lv' := [(0, .inr (some b)), (1, .inl ((boS I b j).1)), (2, .inl (j : Int)), (3, .inl (I (b + 11) (j : Int))), (4, .inl (kOf (boS I b j).2 (I (b + 12) (j : Int)))), (5, .inl (kOf (boS I b j).2 (I (b + 13) (j : Int)))), (6, .inl 0)]) dX2_beginOrders_103 (by decide) rfl rfl ?_
              refine r_iload (d := mX2_beginOrders) (pc := 105) (i := 6) (v := 0) dX2_beginOrders_105 rfl ?_
              refine r_if_eq (d := mX2_beginOrders) (pc := 107) (tgt := 163) dX2_beginOrders_107 (by decide) (fun _ => ?_) (fun q => absurd q (by decide))
              refine r_iinc (d := mX2_beginOrders) (pc := 163) (i := 2) (v := (j : Int)) (y := ((j + 1 : Nat) : Int)) (lv' := [(0, .inr (some b)), (1, .inl ((boS I b j).1)), (2, .inl ((j + 1 : Nat) : Int)), (3, .inl (I (b + 11) (j : Int))), (4, .inl (kOf (boS I b j).2 (I (b + 12) (j : Int)))), (5, .inl (kOf (boS I b j).2 (I (b + 13) (j : Int)))), (6, .inl 0)]) dX2_beginOrders_163 rfl (by decide) rfl (by omega) rfl ?_
              refine r_goto (d := mX2_beginOrders) (pc := 166) (tgt := 4) dX2_beginOrders_166 (by decide) ?_
              refine WP.pick (lv' := [(0, .inr (some b)), (1, .inl ((boS I b j).1)), (2, .inl ((j + 1 : Nat) : Int))]) [0, 1, 2] rfl ?_
              exact wpE (by rw [boS]; (first | rw [if_pos (by omega)] | rw [if_neg (by omega)]) <;> simp) rfl (by refine memE ?_; rw [boS]; (first | rw [if_neg (by omega)] | (rw [if_pos (by omega)]; (first | rw [if_pos h134] | rw [if_neg h134]); dsimp only; unfold vUse; split <;> first | rfl | exact arS_up _ _ _ _ _))) (ih4 (by omega) (by omega))
            · refine r_iconst (d := mX2_beginOrders) (pc := 98) (n := 1) dX2_beginOrders_98 ?_
              refine r_goto (d := mX2_beginOrders) (pc := 99) (tgt := 103) dX2_beginOrders_99 (by decide) ?_
              refine r_istore (d := mX2_beginOrders) (pc := 103) (i := 6) (lv' := [(0, .inr (some b)), (1, .inl ((boS I b j).1)), (2, .inl (j : Int)), (3, .inl (I (b + 11) (j : Int))), (4, .inl (kOf (boS I b j).2 (I (b + 12) (j : Int)))), (5, .inl (kOf (boS I b j).2 (I (b + 13) (j : Int)))), (6, .inl 1)]) dX2_beginOrders_103 (by decide) rfl rfl ?_
              refine r_iload (d := mX2_beginOrders) (pc := 105) (i := 6) (v := 1) dX2_beginOrders_105 rfl ?_
              refine r_if_eq (d := mX2_beginOrders) (pc := 107) (tgt := 163) dX2_beginOrders_107 (by decide) (fun q => absurd q (by decide)) (fun _ => ?_)
              refine r_iload_n (d := mX2_beginOrders) (pc := 110) (i := 1) (v := (boS I b j).1) dX2_beginOrders_110 rfl rfl ?_
              refine r_aload_n (d := mX2_beginOrders) (pc := 111) (i := 0) (v := b) dX2_beginOrders_111 rfl rfl ?_
              refine r_getRs (d := mX2_beginOrders) (pc := 112) (a := b) (kd := 2) (j := 7) (x := b + 1) dX2_beginOrders_112 flRX2_33 hR.1.1 (by decide) (by decide) rfl hR.2.1.1 ?_
              refine r_iconst (d := mX2_beginOrders) (pc := 115) (n := 3) dX2_beginOrders_115 ?_
              refine r_ialds (d := mX2_beginOrders) (pc := 116) (a := b + 1) (x := (I (b + 1) 3)) dX2_beginOrders_116 hR.1.2.1 (by decide) (by decide) (by show (arS I (b + 7) (boS I b j).2) (b + 1) 3 = _; rw [arS_ne _ _ (by omega)]) ?_
              refine r_icmp_ge (d := mX2_beginOrders) (pc := 117) (tgt := 163) dX2_beginOrders_117 (by decide) (fun h117 => ?_) (fun h117 => ?_)
              · refine r_iinc (d := mX2_beginOrders) (pc := 163) (i := 2) (v := (j : Int)) (y := ((j + 1 : Nat) : Int)) (lv' := [(0, .inr (some b)), (1, .inl ((boS I b j).1)), (2, .inl ((j + 1 : Nat) : Int)), (3, .inl (I (b + 11) (j : Int))), (4, .inl (kOf (boS I b j).2 (I (b + 12) (j : Int)))), (5, .inl (kOf (boS I b j).2 (I (b + 13) (j : Int)))), (6, .inl 1)]) dX2_beginOrders_163 rfl (by decide) rfl (by omega) rfl ?_
                refine r_goto (d := mX2_beginOrders) (pc := 166) (tgt := 4) dX2_beginOrders_166 (by decide) ?_
                refine WP.pick (lv' := [(0, .inr (some b)), (1, .inl ((boS I b j).1)), (2, .inl ((j + 1 : Nat) : Int))]) [0, 1, 2] rfl ?_
                exact wpE (by rw [boS]; (first | rw [if_pos (by omega)] | rw [if_neg (by omega)]) <;> simp) rfl (by refine memE ?_; rw [boS]; (first | rw [if_neg (by omega)] | (rw [if_pos (by omega)]; (first | rw [if_pos h134] | rw [if_neg h134]); dsimp only; unfold vUse; split <;> first | rfl | exact arS_up _ _ _ _ _))) (ih4 (by omega) (by omega))
              · refine r_aload_n (d := mX2_beginOrders) (pc := 120) (i := 0) (v := b) dX2_beginOrders_120 rfl rfl ?_
                refine r_getRs (d := mX2_beginOrders) (pc := 121) (a := b) (kd := 2) (j := 7) (x := b + 1) dX2_beginOrders_121 flRX2_33 hR.1.1 (by decide) (by decide) rfl hR.2.1.1 ?_
                refine r_aload_n (d := mX2_beginOrders) (pc := 124) (i := 0) (v := b) dX2_beginOrders_124 rfl rfl ?_
                refine r_getRs (d := mX2_beginOrders) (pc := 125) (a := b) (kd := 2) (j := 10) (x := b + 9) dX2_beginOrders_125 flRX2_54 hR.1.1 (by decide) (by decide) rfl hR.2.1.2.2.2.1 ?_
                refine r_getRs (d := mX2_beginOrders) (pc := 128) (a := b + 9) (kd := 1) (j := 1) (x := b + 10) dX2_beginOrders_128 flRX2_199 hR.2.2.2.2.1.1 (by decide) (by decide) rfl hR.2.2.2.2.1.2.2.2.2.2.2.1 ?_
                refine r_iload_n (d := mX2_beginOrders) (pc := 131) (i := 2) (v := (j : Int)) dX2_beginOrders_131 rfl rfl ?_
                refine r_ialds (d := mX2_beginOrders) (pc := 132) (a := b + 10) (x := (I (b + 10) (j : Int))) dX2_beginOrders_132 hR.2.2.2.2.1.2.1 (by omega) (by omega) (by show (arS I (b + 7) (boS I b j).2) (b + 10) (j : Int) = _; rw [arS_ne _ _ (by omega)]) ?_
                refine r_iconst (d := mX2_beginOrders) (pc := 133) (n := 2) dX2_beginOrders_133 ?_
                refine r_icmp_ne (d := mX2_beginOrders) (pc := 134) (tgt := 141) dX2_beginOrders_134 (by decide) (fun h134 => ?_) (fun h134 => ?_)
                · refine r_iconst (d := mX2_beginOrders) (pc := 141) (n := 0) dX2_beginOrders_141 ?_
                  refine r_ialds (d := mX2_beginOrders) (pc := 142) (a := b + 1) (x := (I (b + 1) 0)) dX2_beginOrders_142 hR.1.2.1 (by decide) (by decide) (by show (arS I (b + 7) (boS I b j).2) (b + 1) 0 = _; rw [arS_ne _ _ (by omega)]) ?_
                  refine r_istore (d := mX2_beginOrders) (pc := 143) (i := 7) (lv' := [(0, .inr (some b)), (1, .inl ((boS I b j).1)), (2, .inl (j : Int)), (3, .inl (I (b + 11) (j : Int))), (4, .inl (kOf (boS I b j).2 (I (b + 12) (j : Int)))), (5, .inl (kOf (boS I b j).2 (I (b + 13) (j : Int)))), (6, .inl 1), (7, .inl (I (b + 1) 0))]) dX2_beginOrders_143 (by decide) rfl rfl ?_
                  refine r_aload_n (d := mX2_beginOrders) (pc := 145) (i := 0) (v := b) dX2_beginOrders_145 rfl rfl ?_
                  refine r_getRs (d := mX2_beginOrders) (pc := 146) (a := b) (kd := 2) (j := 9) (x := b + 5) dX2_beginOrders_146 flRX2_47 hR.1.1 (by decide) (by decide) rfl hR.2.1.2.2.1 ?_
                  refine r_iload_n (d := mX2_beginOrders) (pc := 149) (i := 3) (v := (I (b + 11) (j : Int))) dX2_beginOrders_149 rfl rfl ?_
                  refine r_aload_n (d := mX2_beginOrders) (pc := 150) (i := 0) (v := b) dX2_beginOrders_150 rfl rfl ?_
                  refine r_getIs (d := mX2_beginOrders) (pc := 151) (a := b) (kd := 2) (j := 1) (x := (I b 1)) dX2_beginOrders_151 flRX2_15 hR.1.1 (by decide) (by decide) rfl (by show (arS I (b + 7) (boS I b j).2) b 1 = _; rw [arS_ne _ _ (by omega)]) ?_
                  refine r_iload (d := mX2_beginOrders) (pc := 154) (i := 7) (v := (I (b + 1) 0)) dX2_beginOrders_154 rfl ?_
                  refine r_iadd (d := mX2_beginOrders) (pc := 156) dX2_beginOrders_156 ?_
                  refine r_cV2 (d := mX2_beginOrders) (pc := 157) (dj := mX4_setKnownTime) (a := b + 5) (kd := 4) dX2_beginOrders_157 mlRX2_202 inX4_setKnownTime selX4_setKnownTime rfl hR.2.2.2.1.1 (by decide) okX4_setKnownTime (by decide) rfl (Nat.le_of_ble_eq_true rfl) (by decide) (by decide) (Fn_X4_setKnownTime k (arS I (b + 7) (boS I b j).2) P (b + 5) (b + 6) (b + 7) (b + 8) hR.2.2.2.1 (I (b + 11) (j : Int)) ((I b 1) + (I (b + 1) 0))) ?_
                  refine r_iinc (d := mX2_beginOrders) (pc := 160) (i := 1) (v := (boS I b j).1) (y := ((boS I b j).1 + 1)) (lv' := [(0, .inr (some b)), (1, .inl ((boS I b j).1 + 1)), (2, .inl (j : Int)), (3, .inl (I (b + 11) (j : Int))), (4, .inl (kOf (boS I b j).2 (I (b + 12) (j : Int)))), (5, .inl (kOf (boS I b j).2 (I (b + 13) (j : Int)))), (6, .inl 1), (7, .inl (I (b + 1) 0))]) dX2_beginOrders_160 rfl (by decide) rfl rfl rfl ?_
                  refine r_iinc (d := mX2_beginOrders) (pc := 163) (i := 2) (v := (j : Int)) (y := ((j + 1 : Nat) : Int)) (lv' := [(0, .inr (some b)), (1, .inl ((boS I b j).1 + 1)), (2, .inl ((j + 1 : Nat) : Int)), (3, .inl (I (b + 11) (j : Int))), (4, .inl (kOf (boS I b j).2 (I (b + 12) (j : Int)))), (5, .inl (kOf (boS I b j).2 (I (b + 13) (j : Int)))), (6, .inl 1), (7, .inl (I (b + 1) 0))]) dX2_beginOrders_163 rfl (by decide) rfl (by omega) rfl ?_
                  refine r_goto (d := mX2_beginOrders) (pc := 166) (tgt := 4) dX2_beginOrders_166 (by decide) ?_
                  refine WP.pick (lv' := [(0, .inr (some b)), (1, .inl ((boS I b j).1 + 1)), (2, .inl ((j + 1 : Nat) : Int))]) [0, 1, 2] rfl ?_
                  exact wpE (by rw [boS]; (first | rw [if_pos (by omega)] | rw [if_neg (by omega)]) <;> simp) rfl (by refine memE ?_; rw [boS]; (first | rw [if_neg (by omega)] | (rw [if_pos (by omega)]; (first | rw [if_pos h134] | rw [if_neg h134]); dsimp only; unfold vUse; split <;> first | rfl | exact arS_up _ _ _ _ _))) (ih4 (by omega) (by omega))
                · refine r_iconst (d := mX2_beginOrders) (pc := 137) (n := 1) dX2_beginOrders_137 ?_
                  refine r_goto (d := mX2_beginOrders) (pc := 138) (tgt := 142) dX2_beginOrders_138 (by decide) ?_
                  refine r_ialds (d := mX2_beginOrders) (pc := 142) (a := b + 1) (x := (I (b + 1) 1)) dX2_beginOrders_142 hR.1.2.1 (by decide) (by decide) (by show (arS I (b + 7) (boS I b j).2) (b + 1) 1 = _; rw [arS_ne _ _ (by omega)]) ?_
                  refine r_istore (d := mX2_beginOrders) (pc := 143) (i := 7) (lv' := [(0, .inr (some b)), (1, .inl ((boS I b j).1)), (2, .inl (j : Int)), (3, .inl (I (b + 11) (j : Int))), (4, .inl (kOf (boS I b j).2 (I (b + 12) (j : Int)))), (5, .inl (kOf (boS I b j).2 (I (b + 13) (j : Int)))), (6, .inl 1), (7, .inl (I (b + 1) 1))]) dX2_beginOrders_143 (by decide) rfl rfl ?_
                  refine r_aload_n (d := mX2_beginOrders) (pc := 145) (i := 0) (v := b) dX2_beginOrders_145 rfl rfl ?_
                  refine r_getRs (d := mX2_beginOrders) (pc := 146) (a := b) (kd := 2) (j := 9) (x := b + 5) dX2_beginOrders_146 flRX2_47 hR.1.1 (by decide) (by decide) rfl hR.2.1.2.2.1 ?_
                  refine r_iload_n (d := mX2_beginOrders) (pc := 149) (i := 3) (v := (I (b + 11) (j : Int))) dX2_beginOrders_149 rfl rfl ?_
                  refine r_aload_n (d := mX2_beginOrders) (pc := 150) (i := 0) (v := b) dX2_beginOrders_150 rfl rfl ?_
                  refine r_getIs (d := mX2_beginOrders) (pc := 151) (a := b) (kd := 2) (j := 1) (x := (I b 1)) dX2_beginOrders_151 flRX2_15 hR.1.1 (by decide) (by decide) rfl (by show (arS I (b + 7) (boS I b j).2) b 1 = _; rw [arS_ne _ _ (by omega)]) ?_
                  refine r_iload (d := mX2_beginOrders) (pc := 154) (i := 7) (v := (I (b + 1) 1)) dX2_beginOrders_154 rfl ?_
                  refine r_iadd (d := mX2_beginOrders) (pc := 156) dX2_beginOrders_156 ?_
                  refine r_cV2 (d := mX2_beginOrders) (pc := 157) (dj := mX4_setKnownTime) (a := b + 5) (kd := 4) dX2_beginOrders_157 mlRX2_202 inX4_setKnownTime selX4_setKnownTime rfl hR.2.2.2.1.1 (by decide) okX4_setKnownTime (by decide) rfl (Nat.le_of_ble_eq_true rfl) (by decide) (by decide) (Fn_X4_setKnownTime k (arS I (b + 7) (boS I b j).2) P (b + 5) (b + 6) (b + 7) (b + 8) hR.2.2.2.1 (I (b + 11) (j : Int)) ((I b 1) + (I (b + 1) 1))) ?_
                  refine r_iinc (d := mX2_beginOrders) (pc := 160) (i := 1) (v := (boS I b j).1) (y := ((boS I b j).1 + 1)) (lv' := [(0, .inr (some b)), (1, .inl ((boS I b j).1 + 1)), (2, .inl (j : Int)), (3, .inl (I (b + 11) (j : Int))), (4, .inl (kOf (boS I b j).2 (I (b + 12) (j : Int)))), (5, .inl (kOf (boS I b j).2 (I (b + 13) (j : Int)))), (6, .inl 1), (7, .inl (I (b + 1) 1))]) dX2_beginOrders_160 rfl (by decide) rfl rfl rfl ?_
                  refine r_iinc (d := mX2_beginOrders) (pc := 163) (i := 2) (v := (j : Int)) (y := ((j + 1 : Nat) : Int)) (lv' := [(0, .inr (some b)), (1, .inl ((boS I b j).1 + 1)), (2, .inl ((j + 1 : Nat) : Int)), (3, .inl (I (b + 11) (j : Int))), (4, .inl (kOf (boS I b j).2 (I (b + 12) (j : Int)))), (5, .inl (kOf (boS I b j).2 (I (b + 13) (j : Int)))), (6, .inl 1), (7, .inl (I (b + 1) 1))]) dX2_beginOrders_163 rfl (by decide) rfl (by omega) rfl ?_
                  refine r_goto (d := mX2_beginOrders) (pc := 166) (tgt := 4) dX2_beginOrders_166 (by decide) ?_
                  refine WP.pick (lv' := [(0, .inr (some b)), (1, .inl ((boS I b j).1 + 1)), (2, .inl ((j + 1 : Nat) : Int))]) [0, 1, 2] rfl ?_
                  exact wpE (by rw [boS]; (first | rw [if_pos (by omega)] | rw [if_neg (by omega)]) <;> simp) rfl (by refine memE ?_; rw [boS]; (first | rw [if_neg (by omega)] | (rw [if_pos (by omega)]; (first | rw [if_pos h134] | rw [if_neg h134]); dsimp only; unfold vUse; split <;> first | rfl | exact arS_up _ _ _ _ _))) (ih4 (by omega) (by omega))
  exact wpE (by simp [boS]) rfl (by refine memE ?_; exact (arS_self _ _).symm) (L4 0 (by omega))
set_option maxRecDepth 20000 in
set_option maxHeartbeats 4000000 in
theorem Fn_X2_letTickGo (k : Nat) (I : mIt) (P : mPt) (b : Nat) (hR : isRm P b) (n : Nat) (hn : I (b + 9) 0 = n) (hn6 : n ≤ 6) (hB : Bd I b) (hB1 : I b 1 ≤ 59990) (hB2 : I b 2 ≤ 1999999980) : WP (k + 2) mX2_letTickGo none (0, 0) (Rt none (lay0, tkI I b n, P)) 0 [(0, .inr (some b))] [] (lay0, I, P) := by
  unfold Bd at hB
  refine r_aload_n (d := mX2_letTickGo) (pc := 0) (i := 0) (v := b) dX2_letTickGo_0 rfl rfl ?_
  refine r_dup (d := mX2_letTickGo) (pc := 1) dX2_letTickGo_1 ?_
  refine r_getIs (d := mX2_letTickGo) (pc := 2) (a := b) (kd := 2) (j := 1) (x := (I b 1)) dX2_letTickGo_2 flRX2_15 hR.1.1 (by decide) (by decide) rfl (rfl) ?_
  refine r_iconst (d := mX2_letTickGo) (pc := 5) (n := 1) dX2_letTickGo_5 ?_
  refine r_iadd (d := mX2_letTickGo) (pc := 6) dX2_letTickGo_6 ?_
  refine r_putIs (d := mX2_letTickGo) (pc := 7) (a := b) (kd := 2) (j := 1) (lay0, mUp I b 1 ((I b 1) + 1), P) dX2_letTickGo_7 flRX2_15 hR.1.1 (by decide) (by decide) rfl rfl (Or.inl rfl) rfl ?_
  refine r_aload_n (d := mX2_letTickGo) (pc := 10) (i := 0) (v := b) dX2_letTickGo_10 rfl rfl ?_
  refine r_cV0 (d := mX2_letTickGo) (pc := 11) (dj := mX2_finishOrders) (a := b) (kd := 2) dX2_letTickGo_11 mlRX2_180 inX2_finishOrders selX2_finishOrders rfl hR.1.1 (by decide) okX2_finishOrders (by decide) rfl (Nat.le_of_ble_eq_true rfl) (by decide) (by decide) (Fn_X2_finishOrders k (mUp I b 1 ((I b 1) + 1)) P b hR n (by rw [mUp_ne _ _ _ (by omega)]; exact hn) hn6 (by unfold Bd; simp [mUp, fset]; omega) (by simp [mUp, fset]; omega)) ?_
  refine r_aload_n (d := mX2_letTickGo) (pc := 14) (i := 0) (v := b) dX2_letTickGo_14 rfl rfl ?_
  refine r_cV0 (d := mX2_letTickGo) (pc := 15) (dj := mX2_beginOrders) (a := b) (kd := 2) dX2_letTickGo_15 mlRX2_183 inX2_beginOrders selX2_beginOrders rfl hR.1.1 (by decide) okX2_beginOrders (by decide) rfl (Nat.le_of_ble_eq_true rfl) (by decide) (by decide) (Fn_X2_beginOrders k (finI (mUp I b 1 ((I b 1) + 1)) b n) P b hR (foL (mUp I b 1 (I b 1 + 1)) b n) (finI_sz _ _ _) (Nat.le_trans (foL_le _ _ _) hn6) (by unfold Bd; rw [finI_2, finI_b _ _ _ (by decide), finI_b _ _ _ (by decide), finI_b _ _ _ (by decide), finI_b _ _ _ (by decide), finI_ne _ _ (by omega) (by omega)]; have := foL_le (mUp I b 1 (I b 1 + 1)) b n; simp [mUp, fset]; omega)) ?_
  exact r_ret (d := mX2_letTickGo) (pc := 18) dX2_letTickGo_18 rfl (rtV (by rfl)) (by decide) (by decide)
set_option maxRecDepth 20000 in
set_option maxHeartbeats 4000000 in
theorem Fn_X2_letTicksGo (k : Nat) (I : mIt) (P : mPt) (b : Nat) (hR : isRm P b) (n : Nat) (hn : I (b + 9) 0 = n) (hn6 : n ≤ 6) (hB : Bd I b) (hB2 : I b 2 ≤ 1999990000) (t : Int) : WP (k + 3) mX2_letTicksGo none (0, 0) (Rt (some (.inl (ltV I b n t))) (lay0, ltI I b n t, P)) 0 [(0, .inr (some b)), (1, .inl t)] [] (lay0, I, P) := by
  have hBB := hB
  unfold Bd at hBB
  refine wpOkL (fun hokl => ?_)
  have ht9 : mI t := hokl (1, .inl t) (by simp)
  refine r_iload_n (d := mX2_letTicksGo) (pc := 0) (i := 1) (v := t) dX2_letTicksGo_0 rfl rfl ?_
  refine r_iconst (d := mX2_letTicksGo) (pc := 1) (n := 1) dX2_letTicksGo_1 ?_
  refine r_bipush (d := mX2_letTicksGo) (pc := 2) (n := 99) dX2_letTicksGo_2 ?_
  refine r_cSN3 (d := mX2_letTicksGo) (pc := 4) (dj := mX5_within) dX2_letTicksGo_4 mnRX2_97 staX5_within okX5_within (by decide) rfl (Nat.le_of_ble_eq_true rfl) (by decide) (by decide) (Fn_X5_within (k + 2) I P t 1 99) ?_
  refine r_ifb_ne (d := mX2_letTicksGo) (pc := 7) (tgt := 12) dX2_letTicksGo_7 (by decide) (fun h7 => ?_) (fun h7 => ?_)
  · refine r_aload_n (d := mX2_letTicksGo) (pc := 12) (i := 0) (v := b) dX2_letTicksGo_12 rfl rfl ?_
    refine r_getIs (d := mX2_letTicksGo) (pc := 13) (a := b) (kd := 2) (j := 1) (x := (I b 1)) dX2_letTicksGo_13 flRX2_15 hR.1.1 (by decide) (by decide) rfl (rfl) ?_
    refine r_iload_n (d := mX2_letTicksGo) (pc := 16) (i := 1) (v := t) dX2_letTicksGo_16 rfl rfl ?_
    refine r_iadd (d := mX2_letTicksGo) (pc := 17) dX2_letTicksGo_17 ?_
    refine r_ldc (d := mX2_letTicksGo) (pc := 18) (n := 50000) ctRX2_137 dX2_letTicksGo_18 ?_
    refine r_icmp_le (d := mX2_letTicksGo) (pc := 20) (tgt := 26) dX2_letTicksGo_20 (by decide) (fun h20 => ?_) (fun h20 => ?_)
    · refine r_aload_n (d := mX2_letTicksGo) (pc := 26) (i := 0) (v := b) dX2_letTicksGo_26 rfl rfl ?_
      refine r_getIs (d := mX2_letTicksGo) (pc := 27) (a := b) (kd := 2) (j := 2) (x := (I b 2)) dX2_letTicksGo_27 flRX2_18 hR.1.1 (by decide) (by decide) rfl (rfl) ?_
      refine r_istore_n (d := mX2_letTicksGo) (pc := 30) (i := 2) (lv' := [(0, .inr (some b)), (1, .inl t), (2, .inl (I b 2))]) dX2_letTicksGo_30 rfl (by decide) rfl rfl ?_
      refine r_iconst (d := mX2_letTicksGo) (pc := 31) (n := 0) dX2_letTicksGo_31 ?_
      refine r_istore_n (d := mX2_letTicksGo) (pc := 32) (i := 3) (lv' := [(0, .inr (some b)), (1, .inl t), (2, .inl (I b 2)), (3, .inl 0)]) dX2_letTicksGo_32 rfl (by decide) rfl rfl ?_
      have L33 : ∀ j : Nat, j ≤ t.toNat → WP (k + 3) mX2_letTicksGo none (0, 0) (Rt (some (.inl (ltV I b n t))) (lay0, ltI I b n t, P)) 33 [(0, .inr (some b)), (1, .inl t), (2, .inl (I b 2)), (3, .inl (j : Int))] [] (lay0, (tks I b n j).1, P) := by
        refine loopN (t.toNat) _ (fun j ih33 hj33 => ?_)
        have htl := tks_le I b n j
        refine r_iload_n (d := mX2_letTicksGo) (pc := 33) (i := 3) (v := (j : Int)) dX2_letTicksGo_33 rfl rfl ?_
        refine r_iload_n (d := mX2_letTicksGo) (pc := 34) (i := 1) (v := t) dX2_letTicksGo_34 rfl rfl ?_
        refine r_icmp_ge (d := mX2_letTicksGo) (pc := 35) (tgt := 48) dX2_letTicksGo_35 (by decide) (fun h35 => ?_) (fun h35 => ?_)
        · refine r_aload_n (d := mX2_letTicksGo) (pc := 48) (i := 0) (v := b) dX2_letTicksGo_48 rfl rfl ?_
          refine r_getIs (d := mX2_letTicksGo) (pc := 49) (a := b) (kd := 2) (j := 2) (x := (I b 2 + ((n : Int) - ((tks I b n j).2 : Nat)))) dX2_letTicksGo_49 flRX2_18 hR.1.1 (by decide) (by decide) rfl (by show (tks I b n j).1 b 2 = _; rw [tks_2]) ?_
          refine r_iload_n (d := mX2_letTicksGo) (pc := 52) (i := 2) (v := (I b 2)) dX2_letTicksGo_52 rfl rfl ?_
          refine r_isub (d := mX2_letTicksGo) (pc := 53) dX2_letTicksGo_53 ?_
          exact r_iret (d := mX2_letTicksGo) (pc := 54) dX2_letTicksGo_54 rfl (rtI (by rw [ltV, if_neg (by omega), if_neg (by omega), show t.toNat = j by omega]; omega) (by rw [ltI, if_pos (by omega), show t.toNat = j by omega])) (by decide) (by decide)
        · refine r_aload_n (d := mX2_letTicksGo) (pc := 38) (i := 0) (v := b) dX2_letTicksGo_38 rfl rfl ?_
          refine r_cV0 (d := mX2_letTicksGo) (pc := 39) (dj := mX2_letTickGo) (a := b) (kd := 2) dX2_letTicksGo_39 mlRX2_138 inX2_letTickGo selX2_letTickGo rfl hR.1.1 (by decide) okX2_letTickGo (by decide) rfl (Nat.le_of_ble_eq_true rfl) (by decide) (by decide) (Fn_X2_letTickGo k ((tks I b n j).1) P b hR (tks I b n j).2 (tks_sz I b n hn j) (Nat.le_trans (tks_le I b n j) hn6) (tks_bd hn6 hB (by omega) (by omega)) (by rw [tks_1]; omega) (by rw [tks_2]; omega)) ?_
          refine r_iinc (d := mX2_letTicksGo) (pc := 42) (i := 3) (v := (j : Int)) (y := ((j + 1 : Nat) : Int)) (lv' := [(0, .inr (some b)), (1, .inl t), (2, .inl (I b 2)), (3, .inl ((j + 1 : Nat) : Int))]) dX2_letTicksGo_42 rfl (by decide) rfl (by omega) rfl ?_
          refine r_goto (d := mX2_letTicksGo) (pc := 45) (tgt := 33) dX2_letTicksGo_45 (by decide) ?_
          exact wpE (by simp) rfl (by rfl) (ih33 (by omega) (by omega))
      exact wpE (by simp) rfl (by rfl) (L33 0 (by omega))
    · refine r_bipush (d := mX2_letTicksGo) (pc := 23) (n := (-3)) dX2_letTicksGo_23 ?_
      exact r_iret (d := mX2_letTicksGo) (pc := 25) dX2_letTicksGo_25 rfl (rtI (by rw [ltV, if_neg (by omega), if_pos (by omega)]) (by rw [ltI, if_neg (by omega)])) (by decide) (by decide)
  · refine r_iconst (d := mX2_letTicksGo) (pc := 10) (n := (-1)) dX2_letTicksGo_10 ?_
    exact r_iret (d := mX2_letTicksGo) (pc := 11) dX2_letTicksGo_11 rfl (rtI (by rw [ltV, if_pos (by omega)]) (by rw [ltI, if_neg (by omega)])) (by decide) (by decide)
set_option maxRecDepth 20000 in
set_option maxHeartbeats 4000000 in
theorem Fn_X2_ticksTillIdle (k : Nat) (I : mIt) (P : mPt) (b : Nat) (hR : isRm P b) (n : Nat) (hn : I (b + 9) 0 = n) (hn6 : n ≤ 6) (hB : Bd I b) (hB1 : I b 1 ≤ 55000) (hB2 : I b 2 ≤ 1999990000) : WP (k + 3) mX2_ticksTillIdle none (0, 0) (Rt (some (.inl ((idV I b n : Nat) : Int))) (lay0, (tks I b n (idV I b n)).1, P)) 0 [(0, .inr (some b))] [] (lay0, I, P) := by
  have hBB := hB
  unfold Bd at hBB
  refine r_iconst (d := mX2_ticksTillIdle) (pc := 0) (n := 0) dX2_ticksTillIdle_0 ?_
  refine r_istore_n (d := mX2_ticksTillIdle) (pc := 1) (i := 1) (lv' := [(0, .inr (some b)), (1, .inl 0)]) dX2_ticksTillIdle_1 rfl (by decide) rfl rfl ?_
  have L2 : ∀ j : Nat, j ≤ 1000 → idV I b n = fstF (idP I b n) (1000 - j) j → WP (k + 3) mX2_ticksTillIdle none (0, 0) (Rt (some (.inl ((idV I b n : Nat) : Int))) (lay0, (tks I b n (idV I b n)).1, P)) 2 [(0, .inr (some b)), (1, .inl (j : Int))] [] (lay0, (tks I b n j).1, P) := by
    refine loopN (1000) _ (fun j ih2 hj2 hid => ?_)
    have htl := tks_le I b n j
    refine r_aload_n (d := mX2_ticksTillIdle) (pc := 2) (i := 0) (v := b) dX2_ticksTillIdle_2 rfl rfl ?_
    refine r_getRs (d := mX2_ticksTillIdle) (pc := 3) (a := b) (kd := 2) (j := 10) (x := b + 9) dX2_ticksTillIdle_3 flRX2_54 hR.1.1 (by decide) (by decide) rfl hR.2.1.2.2.2.1 ?_
    refine r_getIs (d := mX2_ticksTillIdle) (pc := 6) (a := b + 9) (kd := 1) (j := 0) (x := (((tks I b n j).2 : Nat) : Int)) dX2_ticksTillIdle_6 flRX2_101 hR.2.2.2.2.1.1 (by decide) (by decide) rfl (tks_sz I b n hn j) ?_
    refine r_if_le (d := mX2_ticksTillIdle) (pc := 9) (tgt := 29) dX2_ticksTillIdle_9 (by decide) (fun h9 => ?_) (fun h9 => ?_)
    · refine r_iload_n (d := mX2_ticksTillIdle) (pc := 29) (i := 1) (v := (j : Int)) dX2_ticksTillIdle_29 rfl rfl ?_
      exact r_iret (d := mX2_ticksTillIdle) (pc := 30) dX2_ticksTillIdle_30 rfl (rtI (by first | (rw [hid, show 1000 - j = 0 by omega]; rfl) | (rw [hid, fstF_t (by simp [idP]; omega)])) (by first | (rw [hid, show 1000 - j = 0 by omega]; rfl) | (rw [hid, fstF_t (by simp [idP]; omega)]))) (by decide) (by decide)
    · refine r_iload_n (d := mX2_ticksTillIdle) (pc := 12) (i := 1) (v := (j : Int)) dX2_ticksTillIdle_12 rfl rfl ?_
      refine r_sipush (d := mX2_ticksTillIdle) (pc := 13) (n := 1000) dX2_ticksTillIdle_13 ?_
      refine r_icmp_ge (d := mX2_ticksTillIdle) (pc := 16) (tgt := 29) dX2_ticksTillIdle_16 (by decide) (fun h16 => ?_) (fun h16 => ?_)
      · refine r_iload_n (d := mX2_ticksTillIdle) (pc := 29) (i := 1) (v := (j : Int)) dX2_ticksTillIdle_29 rfl rfl ?_
        exact r_iret (d := mX2_ticksTillIdle) (pc := 30) dX2_ticksTillIdle_30 rfl (rtI (by first | (rw [hid, show 1000 - j = 0 by omega]; rfl) | (rw [hid, fstF_t (by simp [idP]; omega)])) (by first | (rw [hid, show 1000 - j = 0 by omega]; rfl) | (rw [hid, fstF_t (by simp [idP]; omega)]))) (by decide) (by decide)
      · refine r_aload_n (d := mX2_ticksTillIdle) (pc := 19) (i := 0) (v := b) dX2_ticksTillIdle_19 rfl rfl ?_
        refine r_cV0 (d := mX2_ticksTillIdle) (pc := 20) (dj := mX2_letTickGo) (a := b) (kd := 2) dX2_ticksTillIdle_20 mlRX2_138 inX2_letTickGo selX2_letTickGo rfl hR.1.1 (by decide) okX2_letTickGo (by decide) rfl (Nat.le_of_ble_eq_true rfl) (by decide) (by decide) (Fn_X2_letTickGo k ((tks I b n j).1) P b hR (tks I b n j).2 (tks_sz I b n hn j) (Nat.le_trans (tks_le I b n j) hn6) (tks_bd hn6 hB (by omega) (by omega)) (by rw [tks_1]; omega) (by rw [tks_2]; omega)) ?_
        refine r_iinc (d := mX2_ticksTillIdle) (pc := 23) (i := 1) (v := (j : Int)) (y := ((j + 1 : Nat) : Int)) (lv' := [(0, .inr (some b)), (1, .inl ((j + 1 : Nat) : Int))]) dX2_ticksTillIdle_23 rfl (by decide) rfl (by omega) rfl ?_
        refine r_goto (d := mX2_ticksTillIdle) (pc := 26) (tgt := 2) dX2_ticksTillIdle_26 (by decide) ?_
        exact wpE (by simp) rfl (by rfl) (ih2 (by omega) (by omega) (by rw [hid, show 1000 - j = (1000 - (j + 1)) + 1 by omega, fstF, if_neg (by simp [idP]; omega)]))
  exact wpE (by simp) rfl (by rfl) (L2 0 (by omega) (by rfl))
set_option maxRecDepth 20000 in
set_option maxHeartbeats 4000000 in
theorem Fn_X2_ticksTillKnown (k : Nat) (I : mIt) (P : mPt) (b : Nat) (hR : isRm P b) (n : Nat) (hn : I (b + 9) 0 = n) (hn6 : n ≤ 6) (hB : Bd I b) (hB1 : I b 1 ≤ 55000) (hB2 : I b 2 ≤ 1999990000) (name : Int) (hm0 : 0 ≤ name) (hm7 : name ≤ 7) : WP (k + 3) mX2_ticksTillKnown none (0, 0) (Rt (some (.inl ((knV I b n name : Nat) : Int))) (lay0, (tks I b n (knV I b n name)).1, P)) 0 [(0, .inr (some b)), (1, .inl name)] [] (lay0, I, P) := by
  have hBB := hB
  unfold Bd at hBB
  refine r_iconst (d := mX2_ticksTillKnown) (pc := 0) (n := 0) dX2_ticksTillKnown_0 ?_
  refine r_istore_n (d := mX2_ticksTillKnown) (pc := 1) (i := 2) (lv' := [(0, .inr (some b)), (1, .inl name), (2, .inl 0)]) dX2_ticksTillKnown_1 rfl (by decide) rfl rfl ?_
  have L2 : ∀ j : Nat, j ≤ 1000 → knV I b n name = fstF (knP I b n name) (1000 - j) j → WP (k + 3) mX2_ticksTillKnown none (0, 0) (Rt (some (.inl ((knV I b n name : Nat) : Int))) (lay0, (tks I b n (knV I b n name)).1, P)) 2 [(0, .inr (some b)), (1, .inl name), (2, .inl (j : Int))] [] (lay0, (tks I b n j).1, P) := by
    refine loopN (1000) _ (fun j ih2 hj2 hid => ?_)
    have htl := tks_le I b n j
    refine r_iload_n (d := mX2_ticksTillKnown) (pc := 2) (i := 1) (v := name) dX2_ticksTillKnown_2 rfl rfl ?_
    refine r_cSN1 (d := mX2_ticksTillKnown) (pc := 3) (dj := mX5_isName) dX2_ticksTillKnown_3 mnRX2_107 staX5_isName okX5_isName (by decide) rfl (Nat.le_of_ble_eq_true rfl) (by decide) (by decide) (Fn_X5_isName (k + 1) ((tks I b n j).1) P name) ?_
    refine r_ifb_eq (d := mX2_ticksTillKnown) (pc := 6) (tgt := 34) dX2_ticksTillKnown_6 (by decide) (fun h6 => ?_) (fun h6 => ?_)
    · exact absurd (show 0 ≤ name ∧ name ≤ 7 from ⟨hm0, hm7⟩) h6
    · refine r_aload_n (d := mX2_ticksTillKnown) (pc := 9) (i := 0) (v := b) dX2_ticksTillKnown_9 rfl rfl ?_
      refine r_iload_n (d := mX2_ticksTillKnown) (pc := 10) (i := 1) (v := name) dX2_ticksTillKnown_10 rfl rfl ?_
      refine r_cV1 (d := mX2_ticksTillKnown) (pc := 11) (dj := mX2_hidesValue) (a := b) (kd := 2) dX2_ticksTillKnown_11 mlRX2_205 inX2_hidesValue selX2_hidesValue rfl hR.1.1 (by decide) okX2_hidesValue (by decide) rfl (Nat.le_of_ble_eq_true rfl) (by decide) (by decide) (Fn_X2_hidesValue k ((tks I b n j).1) P b hR name (by omega) (by omega)) ?_
      refine r_ifb_eq (d := mX2_ticksTillKnown) (pc := 14) (tgt := 34) dX2_ticksTillKnown_14 (by decide) (fun h14 => ?_) (fun h14 => ?_)
      · refine r_iload_n (d := mX2_ticksTillKnown) (pc := 34) (i := 2) (v := (j : Int)) dX2_ticksTillKnown_34 rfl rfl ?_
        exact r_iret (d := mX2_ticksTillKnown) (pc := 35) dX2_ticksTillKnown_35 rfl (rtI (by first | (rw [hid, show 1000 - j = 0 by omega]; rfl) | (rw [hid, fstF_t (by simp only [knP, decide_eq_true_eq]; exact h14)])) (by first | (rw [hid, show 1000 - j = 0 by omega]; rfl) | (rw [hid, fstF_t (by simp only [knP, decide_eq_true_eq]; exact h14)]))) (by decide) (by decide)
      · refine r_iload_n (d := mX2_ticksTillKnown) (pc := 17) (i := 2) (v := (j : Int)) dX2_ticksTillKnown_17 rfl rfl ?_
        refine r_sipush (d := mX2_ticksTillKnown) (pc := 18) (n := 1000) dX2_ticksTillKnown_18 ?_
        refine r_icmp_ge (d := mX2_ticksTillKnown) (pc := 21) (tgt := 34) dX2_ticksTillKnown_21 (by decide) (fun h21 => ?_) (fun h21 => ?_)
        · refine r_iload_n (d := mX2_ticksTillKnown) (pc := 34) (i := 2) (v := (j : Int)) dX2_ticksTillKnown_34 rfl rfl ?_
          exact r_iret (d := mX2_ticksTillKnown) (pc := 35) dX2_ticksTillKnown_35 rfl (rtI (by first | (rw [hid, show 1000 - j = 0 by omega]; rfl) | (rw [hid, fstF_t (by simp only [knP, decide_eq_true_eq]; exact h14)])) (by first | (rw [hid, show 1000 - j = 0 by omega]; rfl) | (rw [hid, fstF_t (by simp only [knP, decide_eq_true_eq]; exact h14)]))) (by decide) (by decide)
        · refine r_aload_n (d := mX2_ticksTillKnown) (pc := 24) (i := 0) (v := b) dX2_ticksTillKnown_24 rfl rfl ?_
          refine r_cV0 (d := mX2_ticksTillKnown) (pc := 25) (dj := mX2_letTickGo) (a := b) (kd := 2) dX2_ticksTillKnown_25 mlRX2_138 inX2_letTickGo selX2_letTickGo rfl hR.1.1 (by decide) okX2_letTickGo (by decide) rfl (Nat.le_of_ble_eq_true rfl) (by decide) (by decide) (Fn_X2_letTickGo k ((tks I b n j).1) P b hR (tks I b n j).2 (tks_sz I b n hn j) (Nat.le_trans (tks_le I b n j) hn6) (tks_bd hn6 hB (by omega) (by omega)) (by rw [tks_1]; omega) (by rw [tks_2]; omega)) ?_
          refine r_iinc (d := mX2_ticksTillKnown) (pc := 28) (i := 2) (v := (j : Int)) (y := ((j + 1 : Nat) : Int)) (lv' := [(0, .inr (some b)), (1, .inl name), (2, .inl ((j + 1 : Nat) : Int))]) dX2_ticksTillKnown_28 rfl (by decide) rfl (by omega) rfl ?_
          refine r_goto (d := mX2_ticksTillKnown) (pc := 31) (tgt := 2) dX2_ticksTillKnown_31 (by decide) ?_
          exact wpE (by simp) rfl (by rfl) (ih2 (by omega) (by omega) (by rw [hid, show 1000 - j = (1000 - (j + 1)) + 1 by omega, fstF, if_neg (by simp only [knP, decide_eq_true_eq]; exact fun q => q h14)]))
  exact wpE (by simp) rfl (by rfl) (L2 0 (by omega) (by rfl))
