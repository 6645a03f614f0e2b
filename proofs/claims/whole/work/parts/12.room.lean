/-! ===== Room: what its reading methods answer ===== -/
def fnd4 (c : Int) : Int := if c = -1 then -4 else c
def bgn (kn c : Int → Int) : Nat → Int
  | 0 => 0
  | n + 1 => if kOf kn (c n) ≠ 1000000 then bgn kn c n + 1 else bgn kn c n
theorem bgn_le (kn c : Int → Int) (n : Nat) : 0 ≤ bgn kn c n ∧ bgn kn c n ≤ n := by
  induction n with
  | zero => simp [bgn]
  | succ n ih => unfold bgn; split <;> omega
def mkOn (mk : Nat → Int → Int) (x : Int) : Nat → Int
  | 0 => 0
  | n + 1 => if nmask (mk n) x 8 ≠ 0 then bOr (mkOn mk x n) (bShl 1 n) else mkOn mk x n
def pinO (c f g : Int → Int) : Nat → Int
  | 0 => 0
  | n + 1 => bOr (pinO c f g n) (bOr (bOr (bShl 1 (c n)) (bShl 1 (f n))) (bShl 1 (g n)))
def pinI (mk : Nat → Int → Int) (n : Int) (x : Int) : Nat → Int
  | 0 => x
  | i + 1 => if mk i n = -1 then pinI mk n x i else bOr (pinI mk n x i) (bShl 1 (mk i n))
def pinN (mk : Nat → Int → Int) (mc : Nat) (x : Int) : Nat → Int
  | 0 => x
  | n + 1 => pinI mk n (pinN mk mc x n) mc
def mks (I : mIt) (b : Nat) : Nat → Int → Int := fun i => I (mC b i)
def pinA (I : mIt) (b n mc : Nat) : Int := pinN (mks I b) mc (pinO (I (b + 11)) (I (b + 12)) (I (b + 13)) n) 8
def lowR (p : Nat → Bool) : Nat → Nat → Int
  | 0, _ => -1
  | f + 1, j => if p j = true then j else lowR p f (j + 1)
theorem lowR_rng (p : Nat → Bool) (f j : Nat) : lowR p f j = -1 ∨ ((j : Int) ≤ lowR p f j ∧ lowR p f j < j + f) := by
  induction f generalizing j with
  | zero => exact Or.inl rfl
  | succ f ih =>
    unfold lowR
    split
    · omega
    · have := ih (j + 1)
      omega
def freeB (t : Int) (j : Nat) : Bool := decide (bAnd (bShr t j) 1 = 0)
def luF (set time : Int) (kn us : Int → Int) : Nat → Int
  | 0 => -1
  | j + 1 => if (bAnd (bShr set j) 1 = 1 ∧ kn j ≤ time) ∧ (luF set time kn us j = -1 ∨ us j < us (luF set time kn us j)) then j else luF set time kn us j
theorem luF_rng (set time : Int) (kn us : Int → Int) (j : Nat) : luF set time kn us j = -1 ∨ (0 ≤ luF set time kn us j ∧ luF set time kn us j < j) := by
  induction j with
  | zero => exact Or.inl rfl
  | succ j ih =>
    unfold luF
    split <;> omega
def res (what x y : Int) : Int := if what = 0 then (x + y) % 10000 else if what = 1 then (x - y) % 10000 else (x * y) % 10000
theorem mul_rng {x y : Int} (h0 : 0 ≤ x) (h1 : x ≤ 9999) (h2 : 0 ≤ y) (h3 : y ≤ 9999) : 0 ≤ x * y ∧ x * y ≤ 99980001 := by
  refine ⟨Int.mul_nonneg h0 h2, ?_⟩
  have := Int.mul_le_mul h1 h3 h2 (by omega)
  omega
theorem bXor_neg {x y : Int} (hx : mI x) (hy : mI y) (h : 0 ≤ y) : 0 ≤ bXor x y ↔ 0 ≤ x := by
  unfold bXor
  have e1 : ∀ z : Int32, 0 ≤ z.toInt ↔ z.toBitVec.msb = false := by
    intro z
    have : z.toInt = z.toBitVec.toInt := rfl
    rw [this, BitVec.msb_eq_toInt]
    simp
  have e2 : ((Int32.ofInt x ^^^ Int32.ofInt y).toBitVec).msb = ((Int32.ofInt x).toBitVec.msb ^^ (Int32.ofInt y).toBitVec.msb) := by
    rw [Int32.toBitVec_xor, BitVec.msb_xor]
  have h1 := (e1 (Int32.ofInt y)).mp (by rw [mI_toInt hy]; exact h)
  rw [e1, e2, h1, Bool.xor_false, ← e1, mI_toInt hx]
theorem tm10k (x : Int) : (0 ≤ x → x.tmod 10000 = x % 10000) ∧ (x < 0 → x.tmod 10000 = -((-x) % 10000)) := by
  refine ⟨fun h => Int.tmod_eq_emod_of_nonneg h, fun h => ?_⟩
  rw [← Int.tmod_eq_emod_of_nonneg (by omega : 0 ≤ -x), Int.neg_tmod, Int.neg_neg]
def onesF (m : Int) : Nat → Int
  | 0 => 0
  | k + 1 => onesF m k + bAnd (bShr m k) 1
def bc1 (x : Int) : Int := x - bAnd (bUshr x 1) 1431655765
def bc2 (x : Int) : Int := bAnd (bc1 x) 858993459 + bAnd (bUshr (bc1 x) 2) 858993459
def bc3 (x : Int) : Int := bAnd (bc2 x + bUshr (bc2 x) 4) 252645135
def bc4 (x : Int) : Int := bc3 x + bUshr (bc3 x) 8
def bc5 (x : Int) : Int := bc4 x + bUshr (bc4 x) 16
theorem bc_all : ∀ n : Nat, n < 256 → (-2147483648 ≤ bc1 n ∧ bc1 n ≤ 2147483647) ∧ (-2147483648 ≤ bc2 n ∧ bc2 n ≤ 2147483647) ∧ (-2147483648 ≤ bc2 n + bUshr (bc2 n) 4 ∧ bc2 n + bUshr (bc2 n) 4 ≤ 2147483647) ∧ (-2147483648 ≤ bc4 n ∧ bc4 n ≤ 2147483647) ∧ (-2147483648 ≤ bc5 n ∧ bc5 n ≤ 2147483647) ∧ bAnd (bc5 n) 63 = onesF n 8 := by decide +kernel
set_option maxRecDepth 20000 in
set_option maxHeartbeats 4000000 in
theorem Fn_X5_within (k : Nat) (I : mIt) (P : mPt) (x lo hi : Int) : WP (k + 0) mX5_within none (0, 0) (Rt (some (.inl (bI (lo ≤ x ∧ x ≤ hi)))) (lay0, I, P)) 0 [(0, .inl x), (1, .inl lo), (2, .inl hi)] [] (lay0, I, P) := by
  refine r_iload_n (d := mX5_within) (pc := 0) (i := 0) (v := x) dX5_within_0 rfl rfl ?_
  refine r_iload_n (d := mX5_within) (pc := 1) (i := 1) (v := lo) dX5_within_1 rfl rfl ?_
  refine r_icmp_lt (d := mX5_within) (pc := 2) (tgt := 14) dX5_within_2 (by decide) (fun h2 => ?_) (fun h2 => ?_)
  · refine r_iconst (d := mX5_within) (pc := 14) (n := 0) dX5_within_14 ?_
    exact r_zret (d := mX5_within) (pc := 15) dX5_within_15 rfl (Or.inl rfl) (rtI (by first | exact (bI_t (by omega)).symm | exact (bI_f (by omega)).symm) (by rfl)) (by decide) (by decide)
  · refine r_iload_n (d := mX5_within) (pc := 5) (i := 0) (v := x) dX5_within_5 rfl rfl ?_
    refine r_iload_n (d := mX5_within) (pc := 6) (i := 2) (v := hi) dX5_within_6 rfl rfl ?_
    refine r_icmp_gt (d := mX5_within) (pc := 7) (tgt := 14) dX5_within_7 (by decide) (fun h7 => ?_) (fun h7 => ?_)
    · refine r_iconst (d := mX5_within) (pc := 14) (n := 0) dX5_within_14 ?_
      exact r_zret (d := mX5_within) (pc := 15) dX5_within_15 rfl (Or.inl rfl) (rtI (by first | exact (bI_t (by omega)).symm | exact (bI_f (by omega)).symm) (by rfl)) (by decide) (by decide)
    · refine r_iconst (d := mX5_within) (pc := 10) (n := 1) dX5_within_10 ?_
      refine r_goto (d := mX5_within) (pc := 11) (tgt := 15) dX5_within_11 (by decide) ?_
      exact r_zret (d := mX5_within) (pc := 15) dX5_within_15 rfl (Or.inr rfl) (rtI (by first | exact (bI_t (by omega)).symm | exact (bI_f (by omega)).symm) (by rfl)) (by decide) (by decide)
set_option maxRecDepth 20000 in
set_option maxHeartbeats 4000000 in
theorem Fn_X5_isName (k : Nat) (I : mIt) (P : mPt) (x : Int) : WP (k + 1) mX5_isName none (0, 0) (Rt (some (.inl (bI (0 ≤ x ∧ x ≤ 7)))) (lay0, I, P)) 0 [(0, .inl x)] [] (lay0, I, P) := by
  refine r_iload_n (d := mX5_isName) (pc := 0) (i := 0) (v := x) dX5_isName_0 rfl rfl ?_
  refine r_iconst (d := mX5_isName) (pc := 1) (n := 0) dX5_isName_1 ?_
  refine r_bipush (d := mX5_isName) (pc := 2) (n := 7) dX5_isName_2 ?_
  refine r_cS3 (d := mX5_isName) (pc := 4) (dj := mX5_within) dX5_isName_4 mlRX5_113 staX5_within okX5_within (by decide) rfl (by decide) (by decide) (by decide) (Fn_X5_within k I P x 0 7) ?_
  exact r_zret (d := mX5_isName) (pc := 7) dX5_isName_7 rfl (bI_01 _) (rtI (by rfl) (by rfl)) (by decide) (by decide)
set_option maxRecDepth 20000 in
set_option maxHeartbeats 4000000 in
theorem Fn_X2_found (k : Nat) (I : mIt) (P : mPt) (c : Int) : WP (k + 0) mX2_found none (0, 0) (Rt (some (.inl (fnd4 c))) (lay0, I, P)) 0 [(0, .inl c)] [] (lay0, I, P) := by
  refine r_iload_n (d := mX2_found) (pc := 0) (i := 0) (v := c) dX2_found_0 rfl rfl ?_
  refine r_iconst (d := mX2_found) (pc := 1) (n := (-1)) dX2_found_1 ?_
  refine r_icmp_ne (d := mX2_found) (pc := 2) (tgt := 10) dX2_found_2 (by decide) (fun h2 => ?_) (fun h2 => ?_)
  · refine r_iload_n (d := mX2_found) (pc := 10) (i := 0) (v := c) dX2_found_10 rfl rfl ?_
    exact r_iret (d := mX2_found) (pc := 11) dX2_found_11 rfl (rtI (by unfold fnd4; first | rw [if_pos (by omega)] | rw [if_neg (by omega)]) (by rfl)) (by decide) (by decide)
  · refine r_bipush (d := mX2_found) (pc := 5) (n := (-4)) dX2_found_5 ?_
    refine r_goto (d := mX2_found) (pc := 7) (tgt := 11) dX2_found_7 (by decide) ?_
    exact r_iret (d := mX2_found) (pc := 11) dX2_found_11 rfl (rtI (by unfold fnd4; first | rw [if_pos (by omega)] | rw [if_neg (by omega)]) (by rfl)) (by decide) (by decide)
set_option maxRecDepth 20000 in
set_option maxHeartbeats 4000000 in
theorem Fn_X2_isMark (k : Nat) (I : mIt) (P : mPt) (b : Nat) (hR : isRm P b) (m : Int) : WP (k + 0) mX2_isMark none (0, 0) (Rt (some (.inl (bI (0 ≤ m ∧ m < I b 6 ∧ m < 3)))) (lay0, I, P)) 0 [(0, .inr (some b)), (1, .inl m)] [] (lay0, I, P) := by
  refine r_iload_n (d := mX2_isMark) (pc := 0) (i := 1) (v := m) dX2_isMark_0 rfl rfl ?_
  refine r_if_lt (d := mX2_isMark) (pc := 1) (tgt := 21) dX2_isMark_1 (by decide) (fun h1 => ?_) (fun h1 => ?_)
  · refine r_iconst (d := mX2_isMark) (pc := 21) (n := 0) dX2_isMark_21 ?_
    exact r_zret (d := mX2_isMark) (pc := 22) dX2_isMark_22 rfl (Or.inl rfl) (rtI (by first | exact (bI_t (by omega)).symm | exact (bI_f (by omega)).symm) (by rfl)) (by decide) (by decide)
  · refine r_iload_n (d := mX2_isMark) (pc := 4) (i := 1) (v := m) dX2_isMark_4 rfl rfl ?_
    refine r_aload_n (d := mX2_isMark) (pc := 5) (i := 0) (v := b) dX2_isMark_5 rfl rfl ?_
    refine r_getIs (d := mX2_isMark) (pc := 6) (a := b) (kd := 2) (j := 6) (x := (I b 6)) dX2_isMark_6 flRX2_30 hR.1.1 (by decide) (by decide) rfl (rfl) ?_
    refine r_icmp_ge (d := mX2_isMark) (pc := 9) (tgt := 21) dX2_isMark_9 (by decide) (fun h9 => ?_) (fun h9 => ?_)
    · refine r_iconst (d := mX2_isMark) (pc := 21) (n := 0) dX2_isMark_21 ?_
      exact r_zret (d := mX2_isMark) (pc := 22) dX2_isMark_22 rfl (Or.inl rfl) (rtI (by first | exact (bI_t (by omega)).symm | exact (bI_f (by omega)).symm) (by rfl)) (by decide) (by decide)
    · refine r_iload_n (d := mX2_isMark) (pc := 12) (i := 1) (v := m) dX2_isMark_12 rfl rfl ?_
      refine r_iconst (d := mX2_isMark) (pc := 13) (n := 3) dX2_isMark_13 ?_
      refine r_icmp_ge (d := mX2_isMark) (pc := 14) (tgt := 21) dX2_isMark_14 (by decide) (fun h14 => ?_) (fun h14 => ?_)
      · refine r_iconst (d := mX2_isMark) (pc := 21) (n := 0) dX2_isMark_21 ?_
        exact r_zret (d := mX2_isMark) (pc := 22) dX2_isMark_22 rfl (Or.inl rfl) (rtI (by first | exact (bI_t (by omega)).symm | exact (bI_f (by omega)).symm) (by rfl)) (by decide) (by decide)
      · refine r_iconst (d := mX2_isMark) (pc := 17) (n := 1) dX2_isMark_17 ?_
        refine r_goto (d := mX2_isMark) (pc := 18) (tgt := 22) dX2_isMark_18 (by decide) ?_
        exact r_zret (d := mX2_isMark) (pc := 22) dX2_isMark_22 rfl (Or.inr rfl) (rtI (by first | exact (bI_t (by omega)).symm | exact (bI_f (by omega)).symm) (by rfl)) (by decide) (by decide)
set_option maxRecDepth 20000 in
set_option maxHeartbeats 4000000 in
theorem Fn_X2_isKnown (k : Nat) (I : mIt) (P : mPt) (b : Nat) (hR : isRm P b) (ch : Int) : WP (k + 1) mX2_isKnown none (0, 0) (Rt (some (.inl (bI (kOf (I (b + 7)) ch ≤ I b 1)))) (lay0, I, P)) 0 [(0, .inr (some b)), (1, .inl ch)] [] (lay0, I, P) := by
  refine r_aload_n (d := mX2_isKnown) (pc := 0) (i := 0) (v := b) dX2_isKnown_0 rfl rfl ?_
  refine r_getRs (d := mX2_isKnown) (pc := 1) (a := b) (kd := 2) (j := 9) (x := b + 5) dX2_isKnown_1 flRX2_47 hR.1.1 (by decide) (by decide) rfl hR.2.1.2.2.1 ?_
  refine r_iload_n (d := mX2_isKnown) (pc := 4) (i := 1) (v := ch) dX2_isKnown_4 rfl rfl ?_
  refine r_cV1 (d := mX2_isKnown) (pc := 5) (dj := mX4_knownTimeOf) (a := b + 5) (kd := 4) dX2_isKnown_5 mlRX2_187 inX4_knownTimeOf selX4_knownTimeOf rfl hR.2.2.2.1.1 (by decide) okX4_knownTimeOf (by decide) rfl (by decide) (by decide) (by decide) (Fn_X4_knownTimeOf k I P (b + 5) (b + 6) (b + 7) (b + 8) hR.2.2.2.1  ch) ?_
  refine r_aload_n (d := mX2_isKnown) (pc := 8) (i := 0) (v := b) dX2_isKnown_8 rfl rfl ?_
  refine r_getIs (d := mX2_isKnown) (pc := 9) (a := b) (kd := 2) (j := 1) (x := (I b 1)) dX2_isKnown_9 flRX2_15 hR.1.1 (by decide) (by decide) rfl (rfl) ?_
  refine r_icmp_gt (d := mX2_isKnown) (pc := 12) (tgt := 19) dX2_isKnown_12 (by decide) (fun h12 => ?_) (fun h12 => ?_)
  · refine r_iconst (d := mX2_isKnown) (pc := 19) (n := 0) dX2_isKnown_19 ?_
    exact r_zret (d := mX2_isKnown) (pc := 20) dX2_isKnown_20 rfl (Or.inl rfl) (rtI (by first | exact (bI_t (by omega)).symm | exact (bI_f (by omega)).symm) (by rfl)) (by decide) (by decide)
  · refine r_iconst (d := mX2_isKnown) (pc := 15) (n := 1) dX2_isKnown_15 ?_
    refine r_goto (d := mX2_isKnown) (pc := 16) (tgt := 20) dX2_isKnown_16 (by decide) ?_
    exact r_zret (d := mX2_isKnown) (pc := 20) dX2_isKnown_20 rfl (Or.inr rfl) (rtI (by first | exact (bI_t (by omega)).symm | exact (bI_f (by omega)).symm) (by rfl)) (by decide) (by decide)
set_option maxRecDepth 20000 in
set_option maxHeartbeats 4000000 in
theorem Fn_X2_hidesValue (k : Nat) (I : mIt) (P : mPt) (b : Nat) (hR : isRm P b) (n : Int) (hn0 : 0 ≤ n) (hn8 : n < 8) : WP (k + 2) mX2_hidesValue none (0, 0) (Rt (some (.inl (bI (I (b + 3) n ≠ -1 ∧ ¬ kOf (I (b + 7)) (I (b + 3) n) ≤ I b 1)))) (lay0, I, P)) 0 [(0, .inr (some b)), (1, .inl n)] [] (lay0, I, P) := by
  refine r_aload_n (d := mX2_hidesValue) (pc := 0) (i := 0) (v := b) dX2_hidesValue_0 rfl rfl ?_
  refine r_getRs (d := mX2_hidesValue) (pc := 1) (a := b) (kd := 2) (j := 8) (x := b + 2) dX2_hidesValue_1 flRX2_40 hR.1.1 (by decide) (by decide) rfl hR.2.1.2.1 ?_
  refine r_getRs (d := mX2_hidesValue) (pc := 4) (a := b + 2) (kd := 0) (j := 0) (x := b + 3) dX2_hidesValue_4 flRX2_111 hR.2.2.1.1 (by decide) (by decide) rfl hR.2.2.1.2.2.2.1 ?_
  refine r_iload_n (d := mX2_hidesValue) (pc := 7) (i := 1) (v := n) dX2_hidesValue_7 rfl rfl ?_
  refine r_ialds (d := mX2_hidesValue) (pc := 8) (a := b + 3) (x := (I (b + 3) n)) dX2_hidesValue_8 hR.2.2.1.2.1 (by omega) (by omega) (rfl) ?_
  refine r_iconst (d := mX2_hidesValue) (pc := 9) (n := (-1)) dX2_hidesValue_9 ?_
  refine r_icmp_eq (d := mX2_hidesValue) (pc := 10) (tgt := 33) dX2_hidesValue_10 (by decide) (fun h10 => ?_) (fun h10 => ?_)
  · refine r_iconst (d := mX2_hidesValue) (pc := 33) (n := 0) dX2_hidesValue_33 ?_
    exact r_zret (d := mX2_hidesValue) (pc := 34) dX2_hidesValue_34 rfl (Or.inl rfl) (rtI (by simp [bI, *]) (by rfl)) (by decide) (by decide)
  · refine r_aload_n (d := mX2_hidesValue) (pc := 13) (i := 0) (v := b) dX2_hidesValue_13 rfl rfl ?_
    refine r_aload_n (d := mX2_hidesValue) (pc := 14) (i := 0) (v := b) dX2_hidesValue_14 rfl rfl ?_
    refine r_getRs (d := mX2_hidesValue) (pc := 15) (a := b) (kd := 2) (j := 8) (x := b + 2) dX2_hidesValue_15 flRX2_40 hR.1.1 (by decide) (by decide) rfl hR.2.1.2.1 ?_
    refine r_getRs (d := mX2_hidesValue) (pc := 18) (a := b + 2) (kd := 0) (j := 0) (x := b + 3) dX2_hidesValue_18 flRX2_111 hR.2.2.1.1 (by decide) (by decide) rfl hR.2.2.1.2.2.2.1 ?_
    refine r_iload_n (d := mX2_hidesValue) (pc := 21) (i := 1) (v := n) dX2_hidesValue_21 rfl rfl ?_
    refine r_ialds (d := mX2_hidesValue) (pc := 22) (a := b + 3) (x := (I (b + 3) n)) dX2_hidesValue_22 hR.2.2.1.2.1 (by omega) (by omega) (rfl) ?_
    refine r_cV1 (d := mX2_hidesValue) (pc := 23) (dj := mX2_isKnown) (a := b) (kd := 2) dX2_hidesValue_23 mlRX2_219 inX2_isKnown selX2_isKnown rfl hR.1.1 (by decide) okX2_isKnown (by decide) rfl (by decide) (by decide) (by decide) (Fn_X2_isKnown k I P b hR  (I (b + 3) n)) ?_
    refine r_ifb_ne (d := mX2_hidesValue) (pc := 26) (tgt := 33) dX2_hidesValue_26 (by decide) (fun h26 => ?_) (fun h26 => ?_)
    · refine r_iconst (d := mX2_hidesValue) (pc := 33) (n := 0) dX2_hidesValue_33 ?_
      exact r_zret (d := mX2_hidesValue) (pc := 34) dX2_hidesValue_34 rfl (Or.inl rfl) (rtI (by simp [bI, *]) (by rfl)) (by decide) (by decide)
    · refine r_iconst (d := mX2_hidesValue) (pc := 29) (n := 1) dX2_hidesValue_29 ?_
      refine r_goto (d := mX2_hidesValue) (pc := 30) (tgt := 34) dX2_hidesValue_30 (by decide) ?_
      exact r_zret (d := mX2_hidesValue) (pc := 34) dX2_hidesValue_34 rfl (Or.inr rfl) (rtI (by simp [bI, *]) (by rfl)) (by decide) (by decide)
set_option maxRecDepth 20000 in
set_option maxHeartbeats 4000000 in
theorem Fn_X2_hasBegun (k : Nat) (I : mIt) (P : mPt) (b : Nat) (hR : isRm P b) (ix : Int) : WP (k + 1) mX2_hasBegun none (0, 0) (Rt (some (.inl (bI ((0 ≤ ix ∧ ix < I (b + 9) 0 ∧ ix < 6) ∧ kOf (I (b + 7)) (I (b + 11) ix) ≠ 1000000)))) (lay0, I, P)) 0 [(0, .inr (some b)), (1, .inl ix)] [] (lay0, I, P) := by
  refine r_aload_n (d := mX2_hasBegun) (pc := 0) (i := 0) (v := b) dX2_hasBegun_0 rfl rfl ?_
  refine r_getRs (d := mX2_hasBegun) (pc := 1) (a := b) (kd := 2) (j := 10) (x := b + 9) dX2_hasBegun_1 flRX2_54 hR.1.1 (by decide) (by decide) rfl hR.2.1.2.2.2.1 ?_
  refine r_iload_n (d := mX2_hasBegun) (pc := 4) (i := 1) (v := ix) dX2_hasBegun_4 rfl rfl ?_
  refine r_cV1 (d := mX2_hasBegun) (pc := 5) (dj := mX1_isOne) (a := b + 9) (kd := 1) dX2_hasBegun_5 mlRX2_231 inX1_isOne selX1_isOne rfl hR.2.2.2.2.1.1 (by decide) okX1_isOne (by decide) rfl (by decide) (by decide) (by decide) (Fn_X1_isOne k I P (b + 9) (b + 10) (b + 11) (b + 12) (b + 13) (b + 14) hR.2.2.2.2.1  ix) ?_
  refine r_ifb_eq (d := mX2_hasBegun) (pc := 8) (tgt := 36) dX2_hasBegun_8 (by decide) (fun h8 => ?_) (fun h8 => ?_)
  · refine r_iconst (d := mX2_hasBegun) (pc := 36) (n := 0) dX2_hasBegun_36 ?_
    exact r_zret (d := mX2_hasBegun) (pc := 37) dX2_hasBegun_37 rfl (Or.inl rfl) (rtI (by first | exact (bI_t ⟨h8, h29⟩).symm | exact (bI_f (fun q => h8 q.1)).symm | exact (bI_f (fun q => q.2 h29)).symm) (by rfl)) (by decide) (by decide)
  · refine r_aload_n (d := mX2_hasBegun) (pc := 11) (i := 0) (v := b) dX2_hasBegun_11 rfl rfl ?_
    refine r_getRs (d := mX2_hasBegun) (pc := 12) (a := b) (kd := 2) (j := 9) (x := b + 5) dX2_hasBegun_12 flRX2_47 hR.1.1 (by decide) (by decide) rfl hR.2.1.2.2.1 ?_
    refine r_aload_n (d := mX2_hasBegun) (pc := 15) (i := 0) (v := b) dX2_hasBegun_15 rfl rfl ?_
    refine r_getRs (d := mX2_hasBegun) (pc := 16) (a := b) (kd := 2) (j := 10) (x := b + 9) dX2_hasBegun_16 flRX2_54 hR.1.1 (by decide) (by decide) rfl hR.2.1.2.2.2.1 ?_
    refine r_getRs (d := mX2_hasBegun) (pc := 19) (a := b + 9) (kd := 1) (j := 2) (x := b + 11) dX2_hasBegun_19 flRX2_186 hR.2.2.2.2.1.1 (by decide) (by decide) rfl hR.2.2.2.2.1.2.2.2.2.2.2.2.1 ?_
    refine r_iload_n (d := mX2_hasBegun) (pc := 22) (i := 1) (v := ix) dX2_hasBegun_22 rfl rfl ?_
    refine r_ialds (d := mX2_hasBegun) (pc := 23) (a := b + 11) (x := (I (b + 11) ix)) dX2_hasBegun_23 hR.2.2.2.2.1.2.2.1 (by omega) (by omega) (rfl) ?_
    refine r_cV1 (d := mX2_hasBegun) (pc := 24) (dj := mX4_knownTimeOf) (a := b + 5) (kd := 4) dX2_hasBegun_24 mlRX2_187 inX4_knownTimeOf selX4_knownTimeOf rfl hR.2.2.2.1.1 (by decide) okX4_knownTimeOf (by decide) rfl (by decide) (by decide) (by decide) (Fn_X4_knownTimeOf k I P (b + 5) (b + 6) (b + 7) (b + 8) hR.2.2.2.1  (I (b + 11) ix)) ?_
    refine r_ldc (d := mX2_hasBegun) (pc := 27) (n := 1000000) ctRX2_132 dX2_hasBegun_27 ?_
    refine r_icmp_eq (d := mX2_hasBegun) (pc := 29) (tgt := 36) dX2_hasBegun_29 (by decide) (fun h29 => ?_) (fun h29 => ?_)
    · refine r_iconst (d := mX2_hasBegun) (pc := 36) (n := 0) dX2_hasBegun_36 ?_
      exact r_zret (d := mX2_hasBegun) (pc := 37) dX2_hasBegun_37 rfl (Or.inl rfl) (rtI (by first | exact (bI_t ⟨h8, h29⟩).symm | exact (bI_f (fun q => h8 q.1)).symm | exact (bI_f (fun q => q.2 h29)).symm) (by rfl)) (by decide) (by decide)
    · refine r_iconst (d := mX2_hasBegun) (pc := 32) (n := 1) dX2_hasBegun_32 ?_
      refine r_goto (d := mX2_hasBegun) (pc := 33) (tgt := 37) dX2_hasBegun_33 (by decide) ?_
      exact r_zret (d := mX2_hasBegun) (pc := 37) dX2_hasBegun_37 rfl (Or.inr rfl) (rtI (by first | exact (bI_t ⟨h8, h29⟩).symm | exact (bI_f (fun q => h8 q.1)).symm | exact (bI_f (fun q => q.2 h29)).symm) (by rfl)) (by decide) (by decide)
set_option maxRecDepth 20000 in
set_option maxHeartbeats 4000000 in
theorem Fn_X2_begunOrders (k : Nat) (I : mIt) (P : mPt) (b : Nat) (hR : isRm P b) (n : Nat) (hn : I (b + 9) 0 = n) (hn6 : n ≤ 6) : WP (k + 2) mX2_begunOrders none (0, 0) (Rt (some (.inl (bgn (I (b + 7)) (I (b + 11)) n))) (lay0, I, P)) 0 [(0, .inr (some b))] [] (lay0, I, P) := by
  refine r_iconst (d := mX2_begunOrders) (pc := 0) (n := 0) dX2_begunOrders_0 ?_
  refine r_istore_n (d := mX2_begunOrders) (pc := 1) (i := 1) (lv' := [(0, .inr (some b)), (1, .inl 0)]) dX2_begunOrders_1 rfl (by decide) rfl rfl ?_
  refine r_iconst (d := mX2_begunOrders) (pc := 2) (n := 0) dX2_begunOrders_2 ?_
  refine r_istore_n (d := mX2_begunOrders) (pc := 3) (i := 2) (lv' := [(0, .inr (some b)), (1, .inl 0), (2, .inl 0)]) dX2_begunOrders_3 rfl (by decide) rfl rfl ?_
  have L4 : ∀ j : Nat, j ≤ n → WP (k + 2) mX2_begunOrders none (0, 0) (Rt (some (.inl (bgn (I (b + 7)) (I (b + 11)) n))) (lay0, I, P)) 4 [(0, .inr (some b)), (1, .inl (bgn (I (b + 7)) (I (b + 11)) j)), (2, .inl (j : Int))] [] (lay0, I, P) := by
    refine loopN (n) _ (fun j ih4 hj4 => ?_)
    have hb4 := bgn_le (I (b + 7)) (I (b + 11)) j
    refine r_iload_n (d := mX2_begunOrders) (pc := 4) (i := 2) (v := (j : Int)) dX2_begunOrders_4 rfl rfl ?_
    refine r_aload_n (d := mX2_begunOrders) (pc := 5) (i := 0) (v := b) dX2_begunOrders_5 rfl rfl ?_
    refine r_getRs (d := mX2_begunOrders) (pc := 6) (a := b) (kd := 2) (j := 10) (x := b + 9) dX2_begunOrders_6 flRX2_54 hR.1.1 (by decide) (by decide) rfl hR.2.1.2.2.2.1 ?_
    refine r_getIs (d := mX2_begunOrders) (pc := 9) (a := b + 9) (kd := 1) (j := 0) (x := (I (b + 9) 0)) dX2_begunOrders_9 flRX2_101 hR.2.2.2.2.1.1 (by decide) (by decide) rfl (rfl) ?_
    refine r_icmp_ge (d := mX2_begunOrders) (pc := 12) (tgt := 38) dX2_begunOrders_12 (by decide) (fun h12 => ?_) (fun h12 => ?_)
    · refine r_iload_n (d := mX2_begunOrders) (pc := 38) (i := 1) (v := bgn (I (b + 7)) (I (b + 11)) j) dX2_begunOrders_38 rfl rfl ?_
      exact r_iret (d := mX2_begunOrders) (pc := 39) dX2_begunOrders_39 rfl (rtI (by rw [show j = n by omega]) (by rfl)) (by decide) (by decide)
    · refine r_iload_n (d := mX2_begunOrders) (pc := 15) (i := 2) (v := (j : Int)) dX2_begunOrders_15 rfl rfl ?_
      refine r_bipush (d := mX2_begunOrders) (pc := 16) (n := 6) dX2_begunOrders_16 ?_
      refine r_icmp_ge (d := mX2_begunOrders) (pc := 18) (tgt := 38) dX2_begunOrders_18 (by decide) (fun h18 => ?_) (fun h18 => ?_)
      · refine r_iload_n (d := mX2_begunOrders) (pc := 38) (i := 1) (v := bgn (I (b + 7)) (I (b + 11)) j) dX2_begunOrders_38 rfl rfl ?_
        exact r_iret (d := mX2_begunOrders) (pc := 39) dX2_begunOrders_39 rfl (rtI (by rw [show j = n by omega]) (by rfl)) (by decide) (by decide)
      · refine r_aload_n (d := mX2_begunOrders) (pc := 21) (i := 0) (v := b) dX2_begunOrders_21 rfl rfl ?_
        refine r_iload_n (d := mX2_begunOrders) (pc := 22) (i := 2) (v := (j : Int)) dX2_begunOrders_22 rfl rfl ?_
        refine r_cV1 (d := mX2_begunOrders) (pc := 23) (dj := mX2_hasBegun) (a := b) (kd := 2) dX2_begunOrders_23 mlRX2_234 inX2_hasBegun selX2_hasBegun rfl hR.1.1 (by decide) okX2_hasBegun (by decide) rfl (by decide) (by decide) (by decide) (Fn_X2_hasBegun k I P b hR  (j : Int)) ?_
        refine r_ifb_eq (d := mX2_begunOrders) (pc := 26) (tgt := 32) dX2_begunOrders_26 (by decide) (fun h26 => ?_) (fun h26 => ?_)
        · refine r_iinc (d := mX2_begunOrders) (pc := 32) (i := 2) (v := (j : Int)) (y := ((j + 1 : Nat) : Int)) (lv' := [(0, .inr (some b)), (1, .inl (bgn (I (b + 7)) (I (b + 11)) j)), (2, .inl ((j + 1 : Nat) : Int))]) dX2_begunOrders_32 rfl (by decide) rfl (by omega) rfl ?_
          refine r_goto (d := mX2_begunOrders) (pc := 35) (tgt := 4) dX2_begunOrders_35 (by decide) ?_
          exact wpE (by simp [bgn]; intros; omega) rfl (by rfl) (ih4 (by omega) (by omega))
        · refine r_iinc (d := mX2_begunOrders) (pc := 29) (i := 1) (v := bgn (I (b + 7)) (I (b + 11)) j) (y := (bgn (I (b + 7)) (I (b + 11)) j + 1)) (lv' := [(0, .inr (some b)), (1, .inl (bgn (I (b + 7)) (I (b + 11)) j + 1)), (2, .inl (j : Int))]) dX2_begunOrders_29 rfl (by decide) rfl rfl rfl ?_
          refine r_iinc (d := mX2_begunOrders) (pc := 32) (i := 2) (v := (j : Int)) (y := ((j + 1 : Nat) : Int)) (lv' := [(0, .inr (some b)), (1, .inl (bgn (I (b + 7)) (I (b + 11)) j + 1)), (2, .inl ((j + 1 : Nat) : Int))]) dX2_begunOrders_32 rfl (by decide) rfl (by omega) rfl ?_
          refine r_goto (d := mX2_begunOrders) (pc := 35) (tgt := 4) dX2_begunOrders_35 (by decide) ?_
          exact wpE (by simp [bgn]; intros; omega) rfl (by rfl) (ih4 (by omega) (by omega))
  exact wpE (by simp [bgn]) rfl (by rfl) (L4 0 (by omega))
set_option maxRecDepth 20000 in
set_option maxHeartbeats 4000000 in
theorem Fn_X2_marksOn (k : Nat) (I : mIt) (P : mPt) (b : Nat) (hR : isRm P b) (mc : Nat) (hm : I b 6 = mc) (hm3 : mc ≤ 3) (x : Int) : WP (k + 1) mX2_marksOn none (0, 0) (Rt (some (.inl (mkOn (mks I b) x mc))) (lay0, I, P)) 0 [(0, .inr (some b)), (1, .inl x)] [] (lay0, I, P) := by
  refine r_iconst (d := mX2_marksOn) (pc := 0) (n := 0) dX2_marksOn_0 ?_
  refine r_istore_n (d := mX2_marksOn) (pc := 1) (i := 2) (lv' := [(0, .inr (some b)), (1, .inl x), (2, .inl 0)]) dX2_marksOn_1 rfl (by decide) rfl rfl ?_
  refine r_iconst (d := mX2_marksOn) (pc := 2) (n := 0) dX2_marksOn_2 ?_
  refine r_istore_n (d := mX2_marksOn) (pc := 3) (i := 3) (lv' := [(0, .inr (some b)), (1, .inl x), (2, .inl 0), (3, .inl 0)]) dX2_marksOn_3 rfl (by decide) rfl rfl ?_
  have L4 : ∀ j : Nat, j ≤ mc → WP (k + 1) mX2_marksOn none (0, 0) (Rt (some (.inl (mkOn (mks I b) x mc))) (lay0, I, P)) 4 [(0, .inr (some b)), (1, .inl x), (2, .inl (mkOn (mks I b) x j)), (3, .inl (j : Int))] [] (lay0, I, P) := by
    refine loopN (mc) _ (fun j ih4 hj4 => ?_)
    refine r_iload_n (d := mX2_marksOn) (pc := 4) (i := 3) (v := (j : Int)) dX2_marksOn_4 rfl rfl ?_
    refine r_aload_n (d := mX2_marksOn) (pc := 5) (i := 0) (v := b) dX2_marksOn_5 rfl rfl ?_
    refine r_getIs (d := mX2_marksOn) (pc := 6) (a := b) (kd := 2) (j := 6) (x := (I b 6)) dX2_marksOn_6 flRX2_30 hR.1.1 (by decide) (by decide) rfl (rfl) ?_
    refine r_icmp_ge (d := mX2_marksOn) (pc := 9) (tgt := 42) dX2_marksOn_9 (by decide) (fun h9 => ?_) (fun h9 => ?_)
    · refine r_iload_n (d := mX2_marksOn) (pc := 42) (i := 2) (v := mkOn (mks I b) x j) dX2_marksOn_42 rfl rfl ?_
      exact r_iret (d := mX2_marksOn) (pc := 43) dX2_marksOn_43 rfl (rtI (by rw [show j = mc by omega]) (by rfl)) (by decide) (by decide)
    · refine r_iload_n (d := mX2_marksOn) (pc := 12) (i := 3) (v := (j : Int)) dX2_marksOn_12 rfl rfl ?_
      refine r_iconst (d := mX2_marksOn) (pc := 13) (n := 3) dX2_marksOn_13 ?_
      refine r_icmp_ge (d := mX2_marksOn) (pc := 14) (tgt := 42) dX2_marksOn_14 (by decide) (fun h14 => ?_) (fun h14 => ?_)
      · refine r_iload_n (d := mX2_marksOn) (pc := 42) (i := 2) (v := mkOn (mks I b) x j) dX2_marksOn_42 rfl rfl ?_
        exact r_iret (d := mX2_marksOn) (pc := 43) dX2_marksOn_43 rfl (rtI (by rw [show j = mc by omega]) (by rfl)) (by decide) (by decide)
      · refine r_aload_n (d := mX2_marksOn) (pc := 17) (i := 0) (v := b) dX2_marksOn_17 rfl rfl ?_
        refine r_getRs (d := mX2_marksOn) (pc := 18) (a := b) (kd := 2) (j := 11) (x := b + 15) dX2_marksOn_18 flRX2_58 hR.1.1 (by decide) (by decide) rfl hR.2.1.2.2.2.2 ?_
        refine r_iload_n (d := mX2_marksOn) (pc := 21) (i := 3) (v := (j : Int)) dX2_marksOn_21 rfl rfl ?_
        refine r_aald12s (d := mX2_marksOn) (pc := 22) (a := b + 15) (x := mA b (j : Int)) dX2_marksOn_22 hR.1.2.2 (by omega) (by omega) ((hR.mark (by omega) (by omega)).1) ?_
        refine r_iload_n (d := mX2_marksOn) (pc := 23) (i := 1) (v := x) dX2_marksOn_23 rfl rfl ?_
        refine r_cV1 (d := mX2_marksOn) (pc := 24) (dj := mX0_namesOn) (a := mA b (j : Int)) (kd := 0) dX2_marksOn_24 mlRX2_211 inX0_namesOn selX0_namesOn rfl (hR.mark (i := (j : Int)) (by omega) (by omega)).2.1 (by decide) okX0_namesOn (by decide) rfl (by decide) (by decide) (by decide) (Fn_X0_namesOn k I P (mA b (j : Int)) (mC b (j : Int)) (mH b (j : Int)) ((hR.mark (i := (j : Int)) (by omega) (by omega)).2)  x) ?_
        refine r_if_eq (d := mX2_marksOn) (pc := 27) (tgt := 36) dX2_marksOn_27 (by decide) (fun h27 => ?_) (fun h27 => ?_)
        · refine r_iinc (d := mX2_marksOn) (pc := 36) (i := 3) (v := (j : Int)) (y := ((j + 1 : Nat) : Int)) (lv' := [(0, .inr (some b)), (1, .inl x), (2, .inl (mkOn (mks I b) x j)), (3, .inl ((j + 1 : Nat) : Int))]) dX2_marksOn_36 rfl (by decide) rfl (by omega) rfl ?_
          refine r_goto (d := mX2_marksOn) (pc := 39) (tgt := 4) dX2_marksOn_39 (by decide) ?_
          exact wpE (by simp [mkOn, mks, *]) rfl (by rfl) (ih4 (by omega) (by omega))
        · refine r_iload_n (d := mX2_marksOn) (pc := 30) (i := 2) (v := mkOn (mks I b) x j) dX2_marksOn_30 rfl rfl ?_
          refine r_iconst (d := mX2_marksOn) (pc := 31) (n := 1) dX2_marksOn_31 ?_
          refine r_iload_n (d := mX2_marksOn) (pc := 32) (i := 3) (v := (j : Int)) dX2_marksOn_32 rfl rfl ?_
          refine r_ishl (d := mX2_marksOn) (pc := 33) dX2_marksOn_33 ?_
          refine r_ior (d := mX2_marksOn) (pc := 34) dX2_marksOn_34 ?_
          refine r_istore_n (d := mX2_marksOn) (pc := 35) (i := 2) (lv' := [(0, .inr (some b)), (1, .inl x), (2, .inl (bOr (mkOn (mks I b) x j) (bShl 1 (j : Int)))), (3, .inl (j : Int))]) dX2_marksOn_35 rfl (by decide) rfl rfl ?_
          refine r_iinc (d := mX2_marksOn) (pc := 36) (i := 3) (v := (j : Int)) (y := ((j + 1 : Nat) : Int)) (lv' := [(0, .inr (some b)), (1, .inl x), (2, .inl (bOr (mkOn (mks I b) x j) (bShl 1 (j : Int)))), (3, .inl ((j + 1 : Nat) : Int))]) dX2_marksOn_36 rfl (by decide) rfl (by omega) rfl ?_
          refine r_goto (d := mX2_marksOn) (pc := 39) (tgt := 4) dX2_marksOn_39 (by decide) ?_
          exact wpE (by simp [mkOn, mks, *]) rfl (by rfl) (ih4 (by omega) (by omega))
  exact wpE (by simp [mkOn]) rfl (by rfl) (L4 0 (by omega))
set_option maxRecDepth 20000 in
set_option maxHeartbeats 4000000 in
theorem Fn_X2_lowestFreeChair (k : Nat) (I : mIt) (P : mPt) (b : Nat) (hR : isRm P b) (nc : Nat) (hc : I b 0 = nc) (hc7 : nc ≤ 7) (t : Int) : WP (k + 0) mX2_lowestFreeChair none (0, 0) (Rt (some (.inl (lowR (freeB t) nc 0))) (lay0, I, P)) 0 [(0, .inr (some b)), (1, .inl t)] [] (lay0, I, P) := by
  refine r_iconst (d := mX2_lowestFreeChair) (pc := 0) (n := 0) dX2_lowestFreeChair_0 ?_
  refine r_istore_n (d := mX2_lowestFreeChair) (pc := 1) (i := 2) (lv' := [(0, .inr (some b)), (1, .inl t), (2, .inl 0)]) dX2_lowestFreeChair_1 rfl (by decide) rfl rfl ?_
  have L2 : ∀ j : Nat, j ≤ nc → lowR (freeB t) nc 0 = lowR (freeB t) (nc - j) j → WP (k + 0) mX2_lowestFreeChair none (0, 0) (Rt (some (.inl (lowR (freeB t) nc 0))) (lay0, I, P)) 2 [(0, .inr (some b)), (1, .inl t), (2, .inl (j : Int))] [] (lay0, I, P) := by
    refine loopN (nc) _ (fun j ih2 hj2 hl => ?_)
    refine r_iload_n (d := mX2_lowestFreeChair) (pc := 2) (i := 2) (v := (j : Int)) dX2_lowestFreeChair_2 rfl rfl ?_
    refine r_aload_n (d := mX2_lowestFreeChair) (pc := 3) (i := 0) (v := b) dX2_lowestFreeChair_3 rfl rfl ?_
    refine r_getIs (d := mX2_lowestFreeChair) (pc := 4) (a := b) (kd := 2) (j := 0) (x := (I b 0)) dX2_lowestFreeChair_4 flRX2_9 hR.1.1 (by decide) (by decide) rfl (rfl) ?_
    refine r_icmp_ge (d := mX2_lowestFreeChair) (pc := 7) (tgt := 26) dX2_lowestFreeChair_7 (by decide) (fun h7 => ?_) (fun h7 => ?_)
    · refine r_iconst (d := mX2_lowestFreeChair) (pc := 26) (n := (-1)) dX2_lowestFreeChair_26 ?_
      exact r_iret (d := mX2_lowestFreeChair) (pc := 27) dX2_lowestFreeChair_27 rfl (rtI (by rw [hl, show nc - j = 0 by omega]; rfl) (by rfl)) (by decide) (by decide)
    · refine r_iload_n (d := mX2_lowestFreeChair) (pc := 10) (i := 1) (v := t) dX2_lowestFreeChair_10 rfl rfl ?_
      refine r_iload_n (d := mX2_lowestFreeChair) (pc := 11) (i := 2) (v := (j : Int)) dX2_lowestFreeChair_11 rfl rfl ?_
      refine r_ishr (d := mX2_lowestFreeChair) (pc := 12) dX2_lowestFreeChair_12 ?_
      refine r_iconst (d := mX2_lowestFreeChair) (pc := 13) (n := 1) dX2_lowestFreeChair_13 ?_
      refine r_iand (d := mX2_lowestFreeChair) (pc := 14) dX2_lowestFreeChair_14 ?_
      refine r_if_ne (d := mX2_lowestFreeChair) (pc := 15) (tgt := 20) dX2_lowestFreeChair_15 (by decide) (fun h15 => ?_) (fun h15 => ?_)
      · refine r_iinc (d := mX2_lowestFreeChair) (pc := 20) (i := 2) (v := (j : Int)) (y := ((j + 1 : Nat) : Int)) (lv' := [(0, .inr (some b)), (1, .inl t), (2, .inl ((j + 1 : Nat) : Int))]) dX2_lowestFreeChair_20 rfl (by decide) rfl (by omega) rfl ?_
        refine r_goto (d := mX2_lowestFreeChair) (pc := 23) (tgt := 2) dX2_lowestFreeChair_23 (by decide) ?_
        exact wpE (by simp) rfl (by rfl) (ih2 (by omega) (by omega) (by rw [hl, show nc - j = (nc - (j + 1)) + 1 by omega, lowR, if_neg (by simp [freeB, h15])]))
      · refine r_iload_n (d := mX2_lowestFreeChair) (pc := 18) (i := 2) (v := (j : Int)) dX2_lowestFreeChair_18 rfl rfl ?_
        exact r_iret (d := mX2_lowestFreeChair) (pc := 19) dX2_lowestFreeChair_19 rfl (rtI (by rw [hl, show nc - j = (nc - j - 1) + 1 by omega, lowR, if_pos (by simp [freeB, h15])]) (by rfl)) (by decide) (by decide)
  exact wpE (by simp) rfl (by rfl) (L2 0 (by omega) (by rfl))
set_option maxRecDepth 20000 in
set_option maxHeartbeats 4000000 in
theorem Fn_X2_longestUnused (k : Nat) (I : mIt) (P : mPt) (b : Nat) (hR : isRm P b) (nc : Nat) (hc : I b 0 = nc) (hc7 : nc ≤ 7) (t : Int) : WP (k + 0) mX2_longestUnused none (0, 0) (Rt (some (.inl (luF t (I b 1) (I (b + 7)) (I (b + 8)) nc))) (lay0, I, P)) 0 [(0, .inr (some b)), (1, .inl t)] [] (lay0, I, P) := by
  refine r_iconst (d := mX2_longestUnused) (pc := 0) (n := (-1)) dX2_longestUnused_0 ?_
  refine r_istore_n (d := mX2_longestUnused) (pc := 1) (i := 2) (lv' := [(0, .inr (some b)), (1, .inl t), (2, .inl (-1))]) dX2_longestUnused_1 rfl (by decide) rfl rfl ?_
  refine r_iconst (d := mX2_longestUnused) (pc := 2) (n := 0) dX2_longestUnused_2 ?_
  refine r_istore_n (d := mX2_longestUnused) (pc := 3) (i := 3) (lv' := [(0, .inr (some b)), (1, .inl t), (2, .inl (-1)), (3, .inl 0)]) dX2_longestUnused_3 rfl (by decide) rfl rfl ?_
  have L4 : ∀ j : Nat, j ≤ nc → WP (k + 0) mX2_longestUnused none (0, 0) (Rt (some (.inl (luF t (I b 1) (I (b + 7)) (I (b + 8)) nc))) (lay0, I, P)) 4 [(0, .inr (some b)), (1, .inl t), (2, .inl (luF t (I b 1) (I (b + 7)) (I (b + 8)) j)), (3, .inl (j : Int))] [] (lay0, I, P) := by
    refine loopN (nc) _ (fun j ih4 hj4 => ?_)
    have hlu := luF_rng t (I b 1) (I (b + 7)) (I (b + 8)) j
    refine r_iload_n (d := mX2_longestUnused) (pc := 4) (i := 3) (v := (j : Int)) dX2_longestUnused_4 rfl rfl ?_
    refine r_aload_n (d := mX2_longestUnused) (pc := 5) (i := 0) (v := b) dX2_longestUnused_5 rfl rfl ?_
    refine r_getIs (d := mX2_longestUnused) (pc := 6) (a := b) (kd := 2) (j := 0) (x := (I b 0)) dX2_longestUnused_6 flRX2_9 hR.1.1 (by decide) (by decide) rfl (rfl) ?_
    refine r_icmp_ge (d := mX2_longestUnused) (pc := 9) (tgt := 89) dX2_longestUnused_9 (by decide) (fun h9 => ?_) (fun h9 => ?_)
    · refine r_iload_n (d := mX2_longestUnused) (pc := 89) (i := 2) (v := luF t (I b 1) (I (b + 7)) (I (b + 8)) j) dX2_longestUnused_89 rfl rfl ?_
      exact r_iret (d := mX2_longestUnused) (pc := 90) dX2_longestUnused_90 rfl (rtI (by rw [show j = nc by omega]) (by rfl)) (by decide) (by decide)
    · refine r_iload_n (d := mX2_longestUnused) (pc := 12) (i := 3) (v := (j : Int)) dX2_longestUnused_12 rfl rfl ?_
      refine r_bipush (d := mX2_longestUnused) (pc := 13) (n := 7) dX2_longestUnused_13 ?_
      refine r_icmp_ge (d := mX2_longestUnused) (pc := 15) (tgt := 89) dX2_longestUnused_15 (by decide) (fun h15 => ?_) (fun h15 => ?_)
      · refine r_iload_n (d := mX2_longestUnused) (pc := 89) (i := 2) (v := luF t (I b 1) (I (b + 7)) (I (b + 8)) j) dX2_longestUnused_89 rfl rfl ?_
        exact r_iret (d := mX2_longestUnused) (pc := 90) dX2_longestUnused_90 rfl (rtI (by rw [show j = nc by omega]) (by rfl)) (by decide) (by decide)
      · refine r_iload_n (d := mX2_longestUnused) (pc := 18) (i := 1) (v := t) dX2_longestUnused_18 rfl rfl ?_
        refine r_iload_n (d := mX2_longestUnused) (pc := 19) (i := 3) (v := (j : Int)) dX2_longestUnused_19 rfl rfl ?_
        refine r_ishr (d := mX2_longestUnused) (pc := 20) dX2_longestUnused_20 ?_
        refine r_iconst (d := mX2_longestUnused) (pc := 21) (n := 1) dX2_longestUnused_21 ?_
        refine r_iand (d := mX2_longestUnused) (pc := 22) dX2_longestUnused_22 ?_
        refine r_iconst (d := mX2_longestUnused) (pc := 23) (n := 1) dX2_longestUnused_23 ?_
        refine r_icmp_ne (d := mX2_longestUnused) (pc := 24) (tgt := 47) dX2_longestUnused_24 (by decide) (fun h24 => ?_) (fun h24 => ?_)
        · refine r_iconst (d := mX2_longestUnused) (pc := 47) (n := 0) dX2_longestUnused_47 ?_
          refine r_istore (d := mX2_longestUnused) (pc := 48) (i := 4) (lv' := [(0, .inr (some b)), (1, .inl t), (2, .inl (luF t (I b 1) (I (b + 7)) (I (b + 8)) j)), (3, .inl (j : Int)), (4, .inl 0)]) dX2_longestUnused_48 (by decide) rfl rfl ?_
          refine r_iload (d := mX2_longestUnused) (pc := 50) (i := 4) (v := 0) dX2_longestUnused_50 rfl ?_
          refine r_if_eq (d := mX2_longestUnused) (pc := 52) (tgt := 83) dX2_longestUnused_52 (by decide) (fun _ => ?_) (fun q => absurd q (by decide))
          refine r_iinc (d := mX2_longestUnused) (pc := 83) (i := 3) (v := (j : Int)) (y := ((j + 1 : Nat) : Int)) (lv' := [(0, .inr (some b)), (1, .inl t), (2, .inl (luF t (I b 1) (I (b + 7)) (I (b + 8)) j)), (3, .inl ((j + 1 : Nat) : Int)), (4, .inl 0)]) dX2_longestUnused_83 rfl (by decide) rfl (by omega) rfl ?_
          refine r_goto (d := mX2_longestUnused) (pc := 86) (tgt := 4) dX2_longestUnused_86 (by decide) ?_
          refine WP.pick (lv' := [(0, .inr (some b)), (1, .inl t), (2, .inl (luF t (I b 1) (I (b + 7)) (I (b + 8)) j)), (3, .inl ((j + 1 : Nat) : Int))]) [0, 1, 2, 3] rfl ?_
          exact wpE (by rw [luF]; (first | rw [if_pos (by omega)] | rw [if_neg (by omega)]) <;> simp) rfl (by rfl) (ih4 (by omega) (by omega))
        · refine r_aload_n (d := mX2_longestUnused) (pc := 27) (i := 0) (v := b) dX2_longestUnused_27 rfl rfl ?_
          refine r_getRs (d := mX2_longestUnused) (pc := 28) (a := b) (kd := 2) (j := 9) (x := b + 5) dX2_longestUnused_28 flRX2_47 hR.1.1 (by decide) (by decide) rfl hR.2.1.2.2.1 ?_
          refine r_getRs (d := mX2_longestUnused) (pc := 31) (a := b + 5) (kd := 4) (j := 1) (x := b + 7) dX2_longestUnused_31 flRX2_242 hR.2.2.2.1.1 (by decide) (by decide) rfl hR.2.2.2.1.2.2.2.2.2.1 ?_
          refine r_iload_n (d := mX2_longestUnused) (pc := 34) (i := 3) (v := (j : Int)) dX2_longestUnused_34 rfl rfl ?_
          refine r_ialds (d := mX2_longestUnused) (pc := 35) (a := b + 7) (x := (I (b + 7) (j : Int))) dX2_longestUnused_35 hR.2.2.2.1.2.2.1 (by omega) (by omega) (rfl) ?_
          refine r_aload_n (d := mX2_longestUnused) (pc := 36) (i := 0) (v := b) dX2_longestUnused_36 rfl rfl ?_
          refine r_getIs (d := mX2_longestUnused) (pc := 37) (a := b) (kd := 2) (j := 1) (x := (I b 1)) dX2_longestUnused_37 flRX2_15 hR.1.1 (by decide) (by decide) rfl (rfl) ?_
          refine r_icmp_gt (d := mX2_longestUnused) (pc := 40) (tgt := 47) dX2_longestUnused_40 (by decide) (fun h40 => ?_) (fun h40 => ?_)
          · refine r_iconst (d := mX2_longestUnused) (pc := 47) (n := 0) dX2_longestUnused_47 ?_
            refine r_istore (d := mX2_longestUnused) (pc := 48) (i := 4) (lv' := [(0, .inr (some b)), (1, .inl t), (2, .inl (luF t (I b 1) (I (b + 7)) (I (b + 8)) j)), (3, .inl (j : Int)), (4, .inl 0)]) dX2_longestUnused_48 (by decide) rfl rfl ?_
            refine r_iload (d := mX2_longestUnused) (pc := 50) (i := 4) (v := 0) dX2_longestUnused_50 rfl ?_
            refine r_if_eq (d := mX2_longestUnused) (pc := 52) (tgt := 83) dX2_longestUnused_52 (by decide) (fun _ => ?_) (fun q => absurd q (by decide))
            refine r_iinc (d := mX2_longestUnused) (pc := 83) (i := 3) (v := (j : Int)) (y := ((j + 1 : Nat) : Int)) (lv' := [(0, .inr (some b)), (1, .inl t), (2, .inl (luF t (I b 1) (I (b + 7)) (I (b + 8)) j)), (3, .inl ((j + 1 : Nat) : Int)), (4, .inl 0)]) dX2_longestUnused_83 rfl (by decide) rfl (by omega) rfl ?_
            refine r_goto (d := mX2_longestUnused) (pc := 86) (tgt := 4) dX2_longestUnused_86 (by decide) ?_
            refine WP.pick (lv' := [(0, .inr (some b)), (1, .inl t), (2, .inl (luF t (I b 1) (I (b + 7)) (I (b + 8)) j)), (3, .inl ((j + 1 : Nat) : Int))]) [0, 1, 2, 3] rfl ?_
            exact wpE (by rw [luF]; (first | rw [if_pos (by omega)] | rw [if_neg (by omega)]) <;> simp) rfl (by rfl) (ih4 (by omega) (by omega))
          · refine r_iconst (d := mX2_longestUnused) (pc := 43) (n := 1) dX2_longestUnused_43 ?_
            refine r_goto (d := mX2_longestUnused) (pc := 44) (tgt := 48) dX2_longestUnused_44 (by decide) ?_
            refine r_istore (d := mX2_longestUnused) (pc := 48) (i := 4) (lv' := [(0, .inr (some b)), (1, .inl t), (2, .inl (luF t (I b 1) (I (b + 7)) (I (b + 8)) j)), (3, .inl (j : Int)), (4, .inl 1)]) dX2_longestUnused_48 (by decide) rfl rfl ?_
            refine r_iload (d := mX2_longestUnused) (pc := 50) (i := 4) (v := 1) dX2_longestUnused_50 rfl ?_
            refine r_if_eq (d := mX2_longestUnused) (pc := 52) (tgt := 83) dX2_longestUnused_52 (by decide) (fun q => absurd q (by decide)) (fun _ => ?_)
            refine r_iload_n (d := mX2_longestUnused) (pc := 55) (i := 2) (v := luF t (I b 1) (I (b + 7)) (I (b + 8)) j) dX2_longestUnused_55 rfl rfl ?_
            refine r_iconst (d := mX2_longestUnused) (pc := 56) (n := (-1)) dX2_longestUnused_56 ?_
            refine r_icmp_eq (d := mX2_longestUnused) (pc := 57) (tgt := 81) dX2_longestUnused_57 (by decide) (fun h57 => ?_) (fun h57 => ?_)
            · refine r_iload_n (d := mX2_longestUnused) (pc := 81) (i := 3) (v := (j : Int)) dX2_longestUnused_81 rfl rfl ?_
              refine r_istore_n (d := mX2_longestUnused) (pc := 82) (i := 2) (lv' := [(0, .inr (some b)), (1, .inl t), (2, .inl (j : Int)), (3, .inl (j : Int)), (4, .inl 1)]) dX2_longestUnused_82 rfl (by decide) rfl rfl ?_
              refine r_iinc (d := mX2_longestUnused) (pc := 83) (i := 3) (v := (j : Int)) (y := ((j + 1 : Nat) : Int)) (lv' := [(0, .inr (some b)), (1, .inl t), (2, .inl (j : Int)), (3, .inl ((j + 1 : Nat) : Int)), (4, .inl 1)]) dX2_longestUnused_83 rfl (by decide) rfl (by omega) rfl ?_
              refine r_goto (d := mX2_longestUnused) (pc := 86) (tgt := 4) dX2_longestUnused_86 (by decide) ?_
              refine WP.pick (lv' := [(0, .inr (some b)), (1, .inl t), (2, .inl (j : Int)), (3, .inl ((j + 1 : Nat) : Int))]) [0, 1, 2, 3] rfl ?_
              exact wpE (by rw [luF]; (first | rw [if_pos (by omega)] | rw [if_neg (by omega)]) <;> simp) rfl (by rfl) (ih4 (by omega) (by omega))
            · refine r_aload_n (d := mX2_longestUnused) (pc := 60) (i := 0) (v := b) dX2_longestUnused_60 rfl rfl ?_
              refine r_getRs (d := mX2_longestUnused) (pc := 61) (a := b) (kd := 2) (j := 9) (x := b + 5) dX2_longestUnused_61 flRX2_47 hR.1.1 (by decide) (by decide) rfl hR.2.1.2.2.1 ?_
              refine r_getRs (d := mX2_longestUnused) (pc := 64) (a := b + 5) (kd := 4) (j := 2) (x := b + 8) dX2_longestUnused_64 flRX2_245 hR.2.2.2.1.1 (by decide) (by decide) rfl hR.2.2.2.1.2.2.2.2.2.2 ?_
              refine r_iload_n (d := mX2_longestUnused) (pc := 67) (i := 3) (v := (j : Int)) dX2_longestUnused_67 rfl rfl ?_
              refine r_ialds (d := mX2_longestUnused) (pc := 68) (a := b + 8) (x := (I (b + 8) (j : Int))) dX2_longestUnused_68 hR.2.2.2.1.2.2.2.1 (by omega) (by omega) (rfl) ?_
              refine r_aload_n (d := mX2_longestUnused) (pc := 69) (i := 0) (v := b) dX2_longestUnused_69 rfl rfl ?_
              refine r_getRs (d := mX2_longestUnused) (pc := 70) (a := b) (kd := 2) (j := 9) (x := b + 5) dX2_longestUnused_70 flRX2_47 hR.1.1 (by decide) (by decide) rfl hR.2.1.2.2.1 ?_
              refine r_getRs (d := mX2_longestUnused) (pc := 73) (a := b + 5) (kd := 4) (j := 2) (x := b + 8) dX2_longestUnused_73 flRX2_245 hR.2.2.2.1.1 (by decide) (by decide) rfl hR.2.2.2.1.2.2.2.2.2.2 ?_
              refine r_iload_n (d := mX2_longestUnused) (pc := 76) (i := 2) (v := luF t (I b 1) (I (b + 7)) (I (b + 8)) j) dX2_longestUnused_76 rfl rfl ?_
              refine r_ialds (d := mX2_longestUnused) (pc := 77) (a := b + 8) (x := (I (b + 8) (luF t (I b 1) (I (b + 7)) (I (b + 8)) j))) dX2_longestUnused_77 hR.2.2.2.1.2.2.2.1 (by omega) (by omega) (rfl) ?_
              refine r_icmp_ge (d := mX2_longestUnused) (pc := 78) (tgt := 83) dX2_longestUnused_78 (by decide) (fun h78 => ?_) (fun h78 => ?_)
              · refine r_iinc (d := mX2_longestUnused) (pc := 83) (i := 3) (v := (j : Int)) (y := ((j + 1 : Nat) : Int)) (lv' := [(0, .inr (some b)), (1, .inl t), (2, .inl (luF t (I b 1) (I (b + 7)) (I (b + 8)) j)), (3, .inl ((j + 1 : Nat) : Int)), (4, .inl 1)]) dX2_longestUnused_83 rfl (by decide) rfl (by omega) rfl ?_
                refine r_goto (d := mX2_longestUnused) (pc := 86) (tgt := 4) dX2_longestUnused_86 (by decide) ?_
                refine WP.pick (lv' := [(0, .inr (some b)), (1, .inl t), (2, .inl (luF t (I b 1) (I (b + 7)) (I (b + 8)) j)), (3, .inl ((j + 1 : Nat) : Int))]) [0, 1, 2, 3] rfl ?_
                exact wpE (by rw [luF]; (first | rw [if_pos (by omega)] | rw [if_neg (by omega)]) <;> simp) rfl (by rfl) (ih4 (by omega) (by omega))
              · refine r_iload_n (d := mX2_longestUnused) (pc := 81) (i := 3) (v := (j : Int)) dX2_longestUnused_81 rfl rfl ?_
                refine r_istore_n (d := mX2_longestUnused) (pc := 82) (i := 2) (lv' := [(0, .inr (some b)), (1, .inl t), (2, .inl (j : Int)), (3, .inl (j : Int)), (4, .inl 1)]) dX2_longestUnused_82 rfl (by decide) rfl rfl ?_
                refine r_iinc (d := mX2_longestUnused) (pc := 83) (i := 3) (v := (j : Int)) (y := ((j + 1 : Nat) : Int)) (lv' := [(0, .inr (some b)), (1, .inl t), (2, .inl (j : Int)), (3, .inl ((j + 1 : Nat) : Int)), (4, .inl 1)]) dX2_longestUnused_83 rfl (by decide) rfl (by omega) rfl ?_
                refine r_goto (d := mX2_longestUnused) (pc := 86) (tgt := 4) dX2_longestUnused_86 (by decide) ?_
                refine WP.pick (lv' := [(0, .inr (some b)), (1, .inl t), (2, .inl (j : Int)), (3, .inl ((j + 1 : Nat) : Int))]) [0, 1, 2, 3] rfl ?_
                exact wpE (by rw [luF]; (first | rw [if_pos (by omega)] | rw [if_neg (by omega)]) <;> simp) rfl (by rfl) (ih4 (by omega) (by omega))
  exact wpE (by simp [luF]) rfl (by rfl) (L4 0 (by omega))
set_option maxRecDepth 20000 in
set_option maxHeartbeats 4000000 in
theorem Fn_X2_pinnedChairs (k : Nat) (I : mIt) (P : mPt) (b : Nat) (hR : isRm P b) (n : Nat) (hn : I (b + 9) 0 = n) (hn6 : n ≤ 6) (mc : Nat) (hm : I b 6 = mc) (hm3 : mc ≤ 3) : WP (k + 0) mX2_pinnedChairs none (0, 0) (Rt (some (.inl (pinA I b n mc))) (lay0, I, P)) 0 [(0, .inr (some b))] [] (lay0, I, P) := by
  refine r_iconst (d := mX2_pinnedChairs) (pc := 0) (n := 0) dX2_pinnedChairs_0 ?_
  refine r_istore_n (d := mX2_pinnedChairs) (pc := 1) (i := 1) (lv' := [(0, .inr (some b)), (1, .inl 0)]) dX2_pinnedChairs_1 rfl (by decide) rfl rfl ?_
  refine r_iconst (d := mX2_pinnedChairs) (pc := 2) (n := 0) dX2_pinnedChairs_2 ?_
  refine r_istore_n (d := mX2_pinnedChairs) (pc := 3) (i := 2) (lv' := [(0, .inr (some b)), (1, .inl 0), (2, .inl 0)]) dX2_pinnedChairs_3 rfl (by decide) rfl rfl ?_
  have L4 : ∀ j : Nat, j ≤ n → WP (k + 0) mX2_pinnedChairs none (0, 0) (Rt (some (.inl (pinA I b n mc))) (lay0, I, P)) 4 [(0, .inr (some b)), (1, .inl (pinO (I (b + 11)) (I (b + 12)) (I (b + 13)) j)), (2, .inl (j : Int))] [] (lay0, I, P) := by
    refine loopN (n) _ (fun j ih4 hj4 => ?_)
    refine r_iload_n (d := mX2_pinnedChairs) (pc := 4) (i := 2) (v := (j : Int)) dX2_pinnedChairs_4 rfl rfl ?_
    refine r_aload_n (d := mX2_pinnedChairs) (pc := 5) (i := 0) (v := b) dX2_pinnedChairs_5 rfl rfl ?_
    refine r_getRs (d := mX2_pinnedChairs) (pc := 6) (a := b) (kd := 2) (j := 10) (x := b + 9) dX2_pinnedChairs_6 flRX2_54 hR.1.1 (by decide) (by decide) rfl hR.2.1.2.2.2.1 ?_
    refine r_getIs (d := mX2_pinnedChairs) (pc := 9) (a := b + 9) (kd := 1) (j := 0) (x := (I (b + 9) 0)) dX2_pinnedChairs_9 flRX2_101 hR.2.2.2.2.1.1 (by decide) (by decide) rfl (rfl) ?_
    refine r_icmp_ge (d := mX2_pinnedChairs) (pc := 12) (tgt := 65) dX2_pinnedChairs_12 (by decide) (fun h12 => ?_) (fun h12 => ?_)
    · refine r_iconst (d := mX2_pinnedChairs) (pc := 65) (n := 0) dX2_pinnedChairs_65 ?_
      refine r_istore_n (d := mX2_pinnedChairs) (pc := 66) (i := 2) (lv' := [(0, .inr (some b)), (1, .inl (pinO (I (b + 11)) (I (b + 12)) (I (b + 13)) j)), (2, .inl 0)]) dX2_pinnedChairs_66 rfl (by decide) rfl rfl ?_
      have L67 : ∀ i : Nat, i ≤ 8 → WP (k + 0) mX2_pinnedChairs none (0, 0) (Rt (some (.inl (pinA I b n mc))) (lay0, I, P)) 67 [(0, .inr (some b)), (1, .inl (pinN (mks I b) mc (pinO (I (b + 11)) (I (b + 12)) (I (b + 13)) n) i)), (2, .inl (i : Int))] [] (lay0, I, P) := by
        refine loopN (8) _ (fun i ih67 hj67 => ?_)
        refine r_iload_n (d := mX2_pinnedChairs) (pc := 67) (i := 2) (v := (i : Int)) dX2_pinnedChairs_67 rfl rfl ?_
        refine r_bipush (d := mX2_pinnedChairs) (pc := 68) (n := 8) dX2_pinnedChairs_68 ?_
        refine r_icmp_ge (d := mX2_pinnedChairs) (pc := 70) (tgt := 131) dX2_pinnedChairs_70 (by decide) (fun h70 => ?_) (fun h70 => ?_)
        · refine r_iload_n (d := mX2_pinnedChairs) (pc := 131) (i := 1) (v := pinN (mks I b) mc (pinO (I (b + 11)) (I (b + 12)) (I (b + 13)) n) i) dX2_pinnedChairs_131 rfl rfl ?_
          exact r_iret (d := mX2_pinnedChairs) (pc := 132) dX2_pinnedChairs_132 rfl (rtI (by rw [show i = 8 by omega]; rfl) (by rfl)) (by decide) (by decide)
        · refine r_iconst (d := mX2_pinnedChairs) (pc := 73) (n := 0) dX2_pinnedChairs_73 ?_
          refine r_istore_n (d := mX2_pinnedChairs) (pc := 74) (i := 3) (lv' := [(0, .inr (some b)), (1, .inl (pinN (mks I b) mc (pinO (I (b + 11)) (I (b + 12)) (I (b + 13)) n) i)), (2, .inl (i : Int)), (3, .inl 0)]) dX2_pinnedChairs_74 rfl (by decide) rfl rfl ?_
          have L75 : ∀ z : Nat, z ≤ mc → WP (k + 0) mX2_pinnedChairs none (0, 0) (Rt (some (.inl (pinA I b n mc))) (lay0, I, P)) 75 [(0, .inr (some b)), (1, .inl (pinI (mks I b) i (pinN (mks I b) mc (pinO (I (b + 11)) (I (b + 12)) (I (b + 13)) n) i) z)), (2, .inl (i : Int)), (3, .inl (z : Int))] [] (lay0, I, P) := by
            refine loopN (mc) _ (fun z ih75 hj75 => ?_)
            refine r_iload_n (d := mX2_pinnedChairs) (pc := 75) (i := 3) (v := (z : Int)) dX2_pinnedChairs_75 rfl rfl ?_
            refine r_aload_n (d := mX2_pinnedChairs) (pc := 76) (i := 0) (v := b) dX2_pinnedChairs_76 rfl rfl ?_
            refine r_getIs (d := mX2_pinnedChairs) (pc := 77) (a := b) (kd := 2) (j := 6) (x := (I b 6)) dX2_pinnedChairs_77 flRX2_30 hR.1.1 (by decide) (by decide) rfl (rfl) ?_
            refine r_icmp_ge (d := mX2_pinnedChairs) (pc := 80) (tgt := 125) dX2_pinnedChairs_80 (by decide) (fun h80 => ?_) (fun h80 => ?_)
            · refine r_iinc (d := mX2_pinnedChairs) (pc := 125) (i := 2) (v := (i : Int)) (y := ((i + 1 : Nat) : Int)) (lv' := [(0, .inr (some b)), (1, .inl (pinI (mks I b) i (pinN (mks I b) mc (pinO (I (b + 11)) (I (b + 12)) (I (b + 13)) n) i) z)), (2, .inl ((i + 1 : Nat) : Int)), (3, .inl (z : Int))]) dX2_pinnedChairs_125 rfl (by decide) rfl (by omega) rfl ?_
              refine r_goto (d := mX2_pinnedChairs) (pc := 128) (tgt := 67) dX2_pinnedChairs_128 (by decide) ?_
              refine WP.pick (lv' := [(0, .inr (some b)), (1, .inl (pinI (mks I b) i (pinN (mks I b) mc (pinO (I (b + 11)) (I (b + 12)) (I (b + 13)) n) i) z)), (2, .inl ((i + 1 : Nat) : Int))]) [0, 1, 2] rfl ?_
              exact wpE (by simp [pinN, show z = mc by omega]) rfl (by rfl) (ih67 (by omega) (by omega))
            · refine r_iload_n (d := mX2_pinnedChairs) (pc := 83) (i := 3) (v := (z : Int)) dX2_pinnedChairs_83 rfl rfl ?_
              refine r_iconst (d := mX2_pinnedChairs) (pc := 84) (n := 3) dX2_pinnedChairs_84 ?_
              refine r_icmp_ge (d := mX2_pinnedChairs) (pc := 85) (tgt := 125) dX2_pinnedChairs_85 (by decide) (fun h85 => ?_) (fun h85 => ?_)
              · refine r_iinc (d := mX2_pinnedChairs) (pc := 125) (i := 2) (v := (i : Int)) (y := ((i + 1 : Nat) : Int)) (lv' := [(0, .inr (some b)), (1, .inl (pinI (mks I b) i (pinN (mks I b) mc (pinO (I (b + 11)) (I (b + 12)) (I (b + 13)) n) i) z)), (2, .inl ((i + 1 : Nat) : Int)), (3, .inl (z : Int))]) dX2_pinnedChairs_125 rfl (by decide) rfl (by omega) rfl ?_
                refine r_goto (d := mX2_pinnedChairs) (pc := 128) (tgt := 67) dX2_pinnedChairs_128 (by decide) ?_
                refine WP.pick (lv' := [(0, .inr (some b)), (1, .inl (pinI (mks I b) i (pinN (mks I b) mc (pinO (I (b + 11)) (I (b + 12)) (I (b + 13)) n) i) z)), (2, .inl ((i + 1 : Nat) : Int))]) [0, 1, 2] rfl ?_
                exact wpE (by simp [pinN, show z = mc by omega]) rfl (by rfl) (ih67 (by omega) (by omega))
              · refine r_aload_n (d := mX2_pinnedChairs) (pc := 88) (i := 0) (v := b) dX2_pinnedChairs_88 rfl rfl ?_
                refine r_getRs (d := mX2_pinnedChairs) (pc := 89) (a := b) (kd := 2) (j := 11) (x := b + 15) dX2_pinnedChairs_89 flRX2_58 hR.1.1 (by decide) (by decide) rfl hR.2.1.2.2.2.2 ?_
                refine r_iload_n (d := mX2_pinnedChairs) (pc := 92) (i := 3) (v := (z : Int)) dX2_pinnedChairs_92 rfl rfl ?_
                refine r_aald12s (d := mX2_pinnedChairs) (pc := 93) (a := b + 15) (x := mA b (z : Int)) dX2_pinnedChairs_93 hR.1.2.2 (by omega) (by omega) ((hR.mark (by omega) (by omega)).1) ?_
                refine r_getRs (d := mX2_pinnedChairs) (pc := 94) (a := mA b (z : Int)) (kd := 0) (j := 0) (x := mC b (z : Int)) dX2_pinnedChairs_94 flRX2_111 (hR.mark (i := (z : Int)) (by omega) (by omega)).2.1 (by decide) (by decide) rfl (hR.mark (i := (z : Int)) (by omega) (by omega)).2.2.2.2.1 ?_
                refine r_iload_n (d := mX2_pinnedChairs) (pc := 97) (i := 2) (v := (i : Int)) dX2_pinnedChairs_97 rfl rfl ?_
                refine r_ialds (d := mX2_pinnedChairs) (pc := 98) (a := mC b (z : Int)) (x := (I (mC b (z : Int)) (i : Int))) dX2_pinnedChairs_98 (hR.mark (i := (z : Int)) (by omega) (by omega)).2.2.1 (by omega) (by omega) (rfl) ?_
                refine r_iconst (d := mX2_pinnedChairs) (pc := 99) (n := (-1)) dX2_pinnedChairs_99 ?_
                refine r_icmp_eq (d := mX2_pinnedChairs) (pc := 100) (tgt := 119) dX2_pinnedChairs_100 (by decide) (fun h100 => ?_) (fun h100 => ?_)
                · refine r_iinc (d := mX2_pinnedChairs) (pc := 119) (i := 3) (v := (z : Int)) (y := ((z + 1 : Nat) : Int)) (lv' := [(0, .inr (some b)), (1, .inl (pinI (mks I b) i (pinN (mks I b) mc (pinO (I (b + 11)) (I (b + 12)) (I (b + 13)) n) i) z)), (2, .inl (i : Int)), (3, .inl ((z + 1 : Nat) : Int))]) dX2_pinnedChairs_119 rfl (by decide) rfl (by omega) rfl ?_
                  refine r_goto (d := mX2_pinnedChairs) (pc := 122) (tgt := 75) dX2_pinnedChairs_122 (by decide) ?_
                  exact wpE (by simp [pinI, mks, *]) rfl (by rfl) (ih75 (by omega) (by omega))
                · refine r_iload_n (d := mX2_pinnedChairs) (pc := 103) (i := 1) (v := pinI (mks I b) i (pinN (mks I b) mc (pinO (I (b + 11)) (I (b + 12)) (I (b + 13)) n) i) z) dX2_pinnedChairs_103 rfl rfl ?_
                  refine r_iconst (d := mX2_pinnedChairs) (pc := 104) (n := 1) dX2_pinnedChairs_104 ?_
                  refine r_aload_n (d := mX2_pinnedChairs) (pc := 105) (i := 0) (v := b) dX2_pinnedChairs_105 rfl rfl ?_
                  refine r_getRs (d := mX2_pinnedChairs) (pc := 106) (a := b) (kd := 2) (j := 11) (x := b + 15) dX2_pinnedChairs_106 flRX2_58 hR.1.1 (by decide) (by decide) rfl hR.2.1.2.2.2.2 ?_
                  refine r_iload_n (d := mX2_pinnedChairs) (pc := 109) (i := 3) (v := (z : Int)) dX2_pinnedChairs_109 rfl rfl ?_
                  refine r_aald12s (d := mX2_pinnedChairs) (pc := 110) (a := b + 15) (x := mA b (z : Int)) dX2_pinnedChairs_110 hR.1.2.2 (by omega) (by omega) ((hR.mark (by omega) (by omega)).1) ?_
                  refine r_getRs (d := mX2_pinnedChairs) (pc := 111) (a := mA b (z : Int)) (kd := 0) (j := 0) (x := mC b (z : Int)) dX2_pinnedChairs_111 flRX2_111 (hR.mark (i := (z : Int)) (by omega) (by omega)).2.1 (by decide) (by decide) rfl (hR.mark (i := (z : Int)) (by omega) (by omega)).2.2.2.2.1 ?_
                  refine r_iload_n (d := mX2_pinnedChairs) (pc := 114) (i := 2) (v := (i : Int)) dX2_pinnedChairs_114 rfl rfl ?_
                  refine r_ialds (d := mX2_pinnedChairs) (pc := 115) (a := mC b (z : Int)) (x := (I (mC b (z : Int)) (i : Int))) dX2_pinnedChairs_115 (hR.mark (i := (z : Int)) (by omega) (by omega)).2.2.1 (by omega) (by omega) (rfl) ?_
                  refine r_ishl (d := mX2_pinnedChairs) (pc := 116) dX2_pinnedChairs_116 ?_
                  refine r_ior (d := mX2_pinnedChairs) (pc := 117) dX2_pinnedChairs_117 ?_
                  refine r_istore_n (d := mX2_pinnedChairs) (pc := 118) (i := 1) (lv' := [(0, .inr (some b)), (1, .inl (bOr (pinI (mks I b) i (pinN (mks I b) mc (pinO (I (b + 11)) (I (b + 12)) (I (b + 13)) n) i) z) (bShl 1 (I (mC b (z : Int)) (i : Int))))), (2, .inl (i : Int)), (3, .inl (z : Int))]) dX2_pinnedChairs_118 rfl (by decide) rfl rfl ?_
                  refine r_iinc (d := mX2_pinnedChairs) (pc := 119) (i := 3) (v := (z : Int)) (y := ((z + 1 : Nat) : Int)) (lv' := [(0, .inr (some b)), (1, .inl (bOr (pinI (mks I b) i (pinN (mks I b) mc (pinO (I (b + 11)) (I (b + 12)) (I (b + 13)) n) i) z) (bShl 1 (I (mC b (z : Int)) (i : Int))))), (2, .inl (i : Int)), (3, .inl ((z + 1 : Nat) : Int))]) dX2_pinnedChairs_119 rfl (by decide) rfl (by omega) rfl ?_
                  refine r_goto (d := mX2_pinnedChairs) (pc := 122) (tgt := 75) dX2_pinnedChairs_122 (by decide) ?_
                  exact wpE (by simp [pinI, mks, *]) rfl (by rfl) (ih75 (by omega) (by omega))
          exact wpE (by simp [pinI]) rfl (by rfl) (L75 0 (by omega))
      exact wpE (by simp [pinN, show j = n by omega]) rfl (by rfl) (L67 0 (by omega))
    · refine r_iload_n (d := mX2_pinnedChairs) (pc := 15) (i := 2) (v := (j : Int)) dX2_pinnedChairs_15 rfl rfl ?_
      refine r_bipush (d := mX2_pinnedChairs) (pc := 16) (n := 6) dX2_pinnedChairs_16 ?_
      refine r_icmp_ge (d := mX2_pinnedChairs) (pc := 18) (tgt := 65) dX2_pinnedChairs_18 (by decide) (fun h18 => ?_) (fun h18 => ?_)
      · refine r_iconst (d := mX2_pinnedChairs) (pc := 65) (n := 0) dX2_pinnedChairs_65 ?_
        refine r_istore_n (d := mX2_pinnedChairs) (pc := 66) (i := 2) (lv' := [(0, .inr (some b)), (1, .inl (pinO (I (b + 11)) (I (b + 12)) (I (b + 13)) j)), (2, .inl 0)]) dX2_pinnedChairs_66 rfl (by decide) rfl rfl ?_
        have L67 : ∀ i : Nat, i ≤ 8 → WP (k + 0) mX2_pinnedChairs none (0, 0) (Rt (some (.inl (pinA I b n mc))) (lay0, I, P)) 67 [(0, .inr (some b)), (1, .inl (pinN (mks I b) mc (pinO (I (b + 11)) (I (b + 12)) (I (b + 13)) n) i)), (2, .inl (i : Int))] [] (lay0, I, P) := by
          refine loopN (8) _ (fun i ih67 hj67 => ?_)
          refine r_iload_n (d := mX2_pinnedChairs) (pc := 67) (i := 2) (v := (i : Int)) dX2_pinnedChairs_67 rfl rfl ?_
          refine r_bipush (d := mX2_pinnedChairs) (pc := 68) (n := 8) dX2_pinnedChairs_68 ?_
          refine r_icmp_ge (d := mX2_pinnedChairs) (pc := 70) (tgt := 131) dX2_pinnedChairs_70 (by decide) (fun h70 => ?_) (fun h70 => ?_)
          · refine r_iload_n (d := mX2_pinnedChairs) (pc := 131) (i := 1) (v := pinN (mks I b) mc (pinO (I (b + 11)) (I (b + 12)) (I (b + 13)) n) i) dX2_pinnedChairs_131 rfl rfl ?_
            exact r_iret (d := mX2_pinnedChairs) (pc := 132) dX2_pinnedChairs_132 rfl (rtI (by rw [show i = 8 by omega]; rfl) (by rfl)) (by decide) (by decide)
          · refine r_iconst (d := mX2_pinnedChairs) (pc := 73) (n := 0) dX2_pinnedChairs_73 ?_
            refine r_istore_n (d := mX2_pinnedChairs) (pc := 74) (i := 3) (lv' := [(0, .inr (some b)), (1, .inl (pinN (mks I b) mc (pinO (I (b + 11)) (I (b + 12)) (I (b + 13)) n) i)), (2, .inl (i : Int)), (3, .inl 0)]) dX2_pinnedChairs_74 rfl (by decide) rfl rfl ?_
            have L75 : ∀ z : Nat, z ≤ mc → WP (k + 0) mX2_pinnedChairs none (0, 0) (Rt (some (.inl (pinA I b n mc))) (lay0, I, P)) 75 [(0, .inr (some b)), (1, .inl (pinI (mks I b) i (pinN (mks I b) mc (pinO (I (b + 11)) (I (b + 12)) (I (b + 13)) n) i) z)), (2, .inl (i : Int)), (3, .inl (z : Int))] [] (lay0, I, P) := by
              refine loopN (mc) _ (fun z ih75 hj75 => ?_)
              refine r_iload_n (d := mX2_pinnedChairs) (pc := 75) (i := 3) (v := (z : Int)) dX2_pinnedChairs_75 rfl rfl ?_
              refine r_aload_n (d := mX2_pinnedChairs) (pc := 76) (i := 0) (v := b) dX2_pinnedChairs_76 rfl rfl ?_
              refine r_getIs (d := mX2_pinnedChairs) (pc := 77) (a := b) (kd := 2) (j := 6) (x := (I b 6)) dX2_pinnedChairs_77 flRX2_30 hR.1.1 (by decide) (by decide) rfl (rfl) ?_
              refine r_icmp_ge (d := mX2_pinnedChairs) (pc := 80) (tgt := 125) dX2_pinnedChairs_80 (by decide) (fun h80 => ?_) (fun h80 => ?_)
              · refine r_iinc (d := mX2_pinnedChairs) (pc := 125) (i := 2) (v := (i : Int)) (y := ((i + 1 : Nat) : Int)) (lv' := [(0, .inr (some b)), (1, .inl (pinI (mks I b) i (pinN (mks I b) mc (pinO (I (b + 11)) (I (b + 12)) (I (b + 13)) n) i) z)), (2, .inl ((i + 1 : Nat) : Int)), (3, .inl (z : Int))]) dX2_pinnedChairs_125 rfl (by decide) rfl (by omega) rfl ?_
                refine r_goto (d := mX2_pinnedChairs) (pc := 128) (tgt := 67) dX2_pinnedChairs_128 (by decide) ?_
                refine WP.pick (lv' := [(0, .inr (some b)), (1, .inl (pinI (mks I b) i (pinN (mks I b) mc (pinO (I (b + 11)) (I (b + 12)) (I (b + 13)) n) i) z)), (2, .inl ((i + 1 : Nat) : Int))]) [0, 1, 2] rfl ?_
                exact wpE (by simp [pinN, show z = mc by omega]) rfl (by rfl) (ih67 (by omega) (by omega))
              · refine r_iload_n (d := mX2_pinnedChairs) (pc := 83) (i := 3) (v := (z : Int)) dX2_pinnedChairs_83 rfl rfl ?_
                refine r_iconst (d := mX2_pinnedChairs) (pc := 84) (n := 3) dX2_pinnedChairs_84 ?_
                refine r_icmp_ge (d := mX2_pinnedChairs) (pc := 85) (tgt := 125) dX2_pinnedChairs_85 (by decide) (fun h85 => ?_) (fun h85 => ?_)
                · refine r_iinc (d := mX2_pinnedChairs) (pc := 125) (i := 2) (v := (i : Int)) (y := ((i + 1 : Nat) : Int)) (lv' := [(0, .inr (some b)), (1, .inl (pinI (mks I b) i (pinN (mks I b) mc (pinO (I (b + 11)) (I (b + 12)) (I (b + 13)) n) i) z)), (2, .inl ((i + 1 : Nat) : Int)), (3, .inl (z : Int))]) dX2_pinnedChairs_125 rfl (by decide) rfl (by omega) rfl ?_
                  refine r_goto (d := mX2_pinnedChairs) (pc := 128) (tgt := 67) dX2_pinnedChairs_128 (by decide) ?_
                  refine WP.pick (lv' := [(0, .inr (some b)), (1, .inl (pinI (mks I b) i (pinN (mks I b) mc (pinO (I (b + 11)) (I (b + 12)) (I (b + 13)) n) i) z)), (2, .inl ((i + 1 : Nat) : Int))]) [0, 1, 2] rfl ?_
                  exact wpE (by simp [pinN, show z = mc by omega]) rfl (by rfl) (ih67 (by omega) (by omega))
                · refine r_aload_n (d := mX2_pinnedChairs) (pc := 88) (i := 0) (v := b) dX2_pinnedChairs_88 rfl rfl ?_
                  refine r_getRs (d := mX2_pinnedChairs) (pc := 89) (a := b) (kd := 2) (j := 11) (x := b + 15) dX2_pinnedChairs_89 flRX2_58 hR.1.1 (by decide) (by decide) rfl hR.2.1.2.2.2.2 ?_
                  refine r_iload_n (d := mX2_pinnedChairs) (pc := 92) (i := 3) (v := (z : Int)) dX2_pinnedChairs_92 rfl rfl ?_
                  refine r_aald12s (d := mX2_pinnedChairs) (pc := 93) (a := b + 15) (x := mA b (z : Int)) dX2_pinnedChairs_93 hR.1.2.2 (by omega) (by omega) ((hR.mark (by omega) (by omega)).1) ?_
                  refine r_getRs (d := mX2_pinnedChairs) (pc := 94) (a := mA b (z : Int)) (kd := 0) (j := 0) (x := mC b (z : Int)) dX2_pinnedChairs_94 flRX2_111 (hR.mark (i := (z : Int)) (by omega) (by omega)).2.1 (by decide) (by decide) rfl (hR.mark (i := (z : Int)) (by omega) (by omega)).2.2.2.2.1 ?_
                  refine r_iload_n (d := mX2_pinnedChairs) (pc := 97) (i := 2) (v := (i : Int)) dX2_pinnedChairs_97 rfl rfl ?_
                  refine r_ialds (d := mX2_pinnedChairs) (pc := 98) (a := mC b (z : Int)) (x := (I (mC b (z : Int)) (i : Int))) dX2_pinnedChairs_98 (hR.mark (i := (z : Int)) (by omega) (by omega)).2.2.1 (by omega) (by omega) (rfl) ?_
                  refine r_iconst (d := mX2_pinnedChairs) (pc := 99) (n := (-1)) dX2_pinnedChairs_99 ?_
                  refine r_icmp_eq (d := mX2_pinnedChairs) (pc := 100) (tgt := 119) dX2_pinnedChairs_100 (by decide) (fun h100 => ?_) (fun h100 => ?_)
                  · refine r_iinc (d := mX2_pinnedChairs) (pc := 119) (i := 3) (v := (z : Int)) (y := ((z + 1 : Nat) : Int)) (lv' := [(0, .inr (some b)), (1, .inl (pinI (mks I b) i (pinN (mks I b) mc (pinO (I (b + 11)) (I (b + 12)) (I (b + 13)) n) i) z)), (2, .inl (i : Int)), (3, .inl ((z + 1 : Nat) : Int))]) dX2_pinnedChairs_119 rfl (by decide) rfl (by omega) rfl ?_
                    refine r_goto (d := mX2_pinnedChairs) (pc := 122) (tgt := 75) dX2_pinnedChairs_122 (by decide) ?_
                    exact wpE (by simp [pinI, mks, *]) rfl (by rfl) (ih75 (by omega) (by omega))
                  · refine r_iload_n (d := mX2_pinnedChairs) (pc := 103) (i := 1) (v := pinI (mks I b) i (pinN (mks I b) mc (pinO (I (b + 11)) (I (b + 12)) (I (b + 13)) n) i) z) dX2_pinnedChairs_103 rfl rfl ?_
                    refine r_iconst (d := mX2_pinnedChairs) (pc := 104) (n := 1) dX2_pinnedChairs_104 ?_
                    refine r_aload_n (d := mX2_pinnedChairs) (pc := 105) (i := 0) (v := b) dX2_pinnedChairs_105 rfl rfl ?_
                    refine r_getRs (d := mX2_pinnedChairs) (pc := 106) (a := b) (kd := 2) (j := 11) (x := b + 15) dX2_pinnedChairs_106 flRX2_58 hR.1.1 (by decide) (by decide) rfl hR.2.1.2.2.2.2 ?_
                    refine r_iload_n (d := mX2_pinnedChairs) (pc := 109) (i := 3) (v := (z : Int)) dX2_pinnedChairs_109 rfl rfl ?_
                    refine r_aald12s (d := mX2_pinnedChairs) (pc := 110) (a := b + 15) (x := mA b (z : Int)) dX2_pinnedChairs_110 hR.1.2.2 (by omega) (by omega) ((hR.mark (by omega) (by omega)).1) ?_
                    refine r_getRs (d := mX2_pinnedChairs) (pc := 111) (a := mA b (z : Int)) (kd := 0) (j := 0) (x := mC b (z : Int)) dX2_pinnedChairs_111 flRX2_111 (hR.mark (i := (z : Int)) (by omega) (by omega)).2.1 (by decide) (by decide) rfl (hR.mark (i := (z : Int)) (by omega) (by omega)).2.2.2.2.1 ?_
                    refine r_iload_n (d := mX2_pinnedChairs) (pc := 114) (i := 2) (v := (i : Int)) dX2_pinnedChairs_114 rfl rfl ?_
                    refine r_ialds (d := mX2_pinnedChairs) (pc := 115) (a := mC b (z : Int)) (x := (I (mC b (z : Int)) (i : Int))) dX2_pinnedChairs_115 (hR.mark (i := (z : Int)) (by omega) (by omega)).2.2.1 (by omega) (by omega) (rfl) ?_
                    refine r_ishl (d := mX2_pinnedChairs) (pc := 116) dX2_pinnedChairs_116 ?_
                    refine r_ior (d := mX2_pinnedChairs) (pc := 117) dX2_pinnedChairs_117 ?_
                    refine r_istore_n (d := mX2_pinnedChairs) (pc := 118) (i := 1) (lv' := [(0, .inr (some b)), (1, .inl (bOr (pinI (mks I b) i (pinN (mks I b) mc (pinO (I (b + 11)) (I (b + 12)) (I (b + 13)) n) i) z) (bShl 1 (I (mC b (z : Int)) (i : Int))))), (2, .inl (i : Int)), (3, .inl (z : Int))]) dX2_pinnedChairs_118 rfl (by decide) rfl rfl ?_
                    refine r_iinc (d := mX2_pinnedChairs) (pc := 119) (i := 3) (v := (z : Int)) (y := ((z + 1 : Nat) : Int)) (lv' := [(0, .inr (some b)), (1, .inl (bOr (pinI (mks I b) i (pinN (mks I b) mc (pinO (I (b + 11)) (I (b + 12)) (I (b + 13)) n) i) z) (bShl 1 (I (mC b (z : Int)) (i : Int))))), (2, .inl (i : Int)), (3, .inl ((z + 1 : Nat) : Int))]) dX2_pinnedChairs_119 rfl (by decide) rfl (by omega) rfl ?_
                    refine r_goto (d := mX2_pinnedChairs) (pc := 122) (tgt := 75) dX2_pinnedChairs_122 (by decide) ?_
                    exact wpE (by simp [pinI, mks, *]) rfl (by rfl) (ih75 (by omega) (by omega))
            exact wpE (by simp [pinI]) rfl (by rfl) (L75 0 (by omega))
        exact wpE (by simp [pinN, show j = n by omega]) rfl (by rfl) (L67 0 (by omega))
      · refine r_iload_n (d := mX2_pinnedChairs) (pc := 21) (i := 1) (v := pinO (I (b + 11)) (I (b + 12)) (I (b + 13)) j) dX2_pinnedChairs_21 rfl rfl ?_
        refine r_iconst (d := mX2_pinnedChairs) (pc := 22) (n := 1) dX2_pinnedChairs_22 ?_
        refine r_aload_n (d := mX2_pinnedChairs) (pc := 23) (i := 0) (v := b) dX2_pinnedChairs_23 rfl rfl ?_
        refine r_getRs (d := mX2_pinnedChairs) (pc := 24) (a := b) (kd := 2) (j := 10) (x := b + 9) dX2_pinnedChairs_24 flRX2_54 hR.1.1 (by decide) (by decide) rfl hR.2.1.2.2.2.1 ?_
        refine r_getRs (d := mX2_pinnedChairs) (pc := 27) (a := b + 9) (kd := 1) (j := 2) (x := b + 11) dX2_pinnedChairs_27 flRX2_186 hR.2.2.2.2.1.1 (by decide) (by decide) rfl hR.2.2.2.2.1.2.2.2.2.2.2.2.1 ?_
        refine r_iload_n (d := mX2_pinnedChairs) (pc := 30) (i := 2) (v := (j : Int)) dX2_pinnedChairs_30 rfl rfl ?_
        refine r_ialds (d := mX2_pinnedChairs) (pc := 31) (a := b + 11) (x := (I (b + 11) (j : Int))) dX2_pinnedChairs_31 hR.2.2.2.2.1.2.2.1 (by omega) (by omega) (rfl) ?_
        refine r_ishl (d := mX2_pinnedChairs) (pc := 32) dX2_pinnedChairs_32 ?_
        refine r_iconst (d := mX2_pinnedChairs) (pc := 33) (n := 1) dX2_pinnedChairs_33 ?_
        refine r_aload_n (d := mX2_pinnedChairs) (pc := 34) (i := 0) (v := b) dX2_pinnedChairs_34 rfl rfl ?_
        refine r_getRs (d := mX2_pinnedChairs) (pc := 35) (a := b) (kd := 2) (j := 10) (x := b + 9) dX2_pinnedChairs_35 flRX2_54 hR.1.1 (by decide) (by decide) rfl hR.2.1.2.2.2.1 ?_
        refine r_getRs (d := mX2_pinnedChairs) (pc := 38) (a := b + 9) (kd := 1) (j := 3) (x := b + 12) dX2_pinnedChairs_38 flRX2_193 hR.2.2.2.2.1.1 (by decide) (by decide) rfl hR.2.2.2.2.1.2.2.2.2.2.2.2.2.1 ?_
        refine r_iload_n (d := mX2_pinnedChairs) (pc := 41) (i := 2) (v := (j : Int)) dX2_pinnedChairs_41 rfl rfl ?_
        refine r_ialds (d := mX2_pinnedChairs) (pc := 42) (a := b + 12) (x := (I (b + 12) (j : Int))) dX2_pinnedChairs_42 hR.2.2.2.2.1.2.2.2.1 (by omega) (by omega) (rfl) ?_
        refine r_ishl (d := mX2_pinnedChairs) (pc := 43) dX2_pinnedChairs_43 ?_
        refine r_ior (d := mX2_pinnedChairs) (pc := 44) dX2_pinnedChairs_44 ?_
        refine r_iconst (d := mX2_pinnedChairs) (pc := 45) (n := 1) dX2_pinnedChairs_45 ?_
        refine r_aload_n (d := mX2_pinnedChairs) (pc := 46) (i := 0) (v := b) dX2_pinnedChairs_46 rfl rfl ?_
        refine r_getRs (d := mX2_pinnedChairs) (pc := 47) (a := b) (kd := 2) (j := 10) (x := b + 9) dX2_pinnedChairs_47 flRX2_54 hR.1.1 (by decide) (by decide) rfl hR.2.1.2.2.2.1 ?_
        refine r_getRs (d := mX2_pinnedChairs) (pc := 50) (a := b + 9) (kd := 1) (j := 4) (x := b + 13) dX2_pinnedChairs_50 flRX2_196 hR.2.2.2.2.1.1 (by decide) (by decide) rfl hR.2.2.2.2.1.2.2.2.2.2.2.2.2.2.1 ?_
        refine r_iload_n (d := mX2_pinnedChairs) (pc := 53) (i := 2) (v := (j : Int)) dX2_pinnedChairs_53 rfl rfl ?_
        refine r_ialds (d := mX2_pinnedChairs) (pc := 54) (a := b + 13) (x := (I (b + 13) (j : Int))) dX2_pinnedChairs_54 hR.2.2.2.2.1.2.2.2.2.1 (by omega) (by omega) (rfl) ?_
        refine r_ishl (d := mX2_pinnedChairs) (pc := 55) dX2_pinnedChairs_55 ?_
        refine r_ior (d := mX2_pinnedChairs) (pc := 56) dX2_pinnedChairs_56 ?_
        refine r_ior (d := mX2_pinnedChairs) (pc := 57) dX2_pinnedChairs_57 ?_
        refine r_istore_n (d := mX2_pinnedChairs) (pc := 58) (i := 1) (lv' := [(0, .inr (some b)), (1, .inl (bOr (pinO (I (b + 11)) (I (b + 12)) (I (b + 13)) j) (bOr (bOr (bShl 1 (I (b + 11) (j : Int))) (bShl 1 (I (b + 12) (j : Int)))) (bShl 1 (I (b + 13) (j : Int)))))), (2, .inl (j : Int))]) dX2_pinnedChairs_58 rfl (by decide) rfl rfl ?_
        refine r_iinc (d := mX2_pinnedChairs) (pc := 59) (i := 2) (v := (j : Int)) (y := ((j + 1 : Nat) : Int)) (lv' := [(0, .inr (some b)), (1, .inl (bOr (pinO (I (b + 11)) (I (b + 12)) (I (b + 13)) j) (bOr (bOr (bShl 1 (I (b + 11) (j : Int))) (bShl 1 (I (b + 12) (j : Int)))) (bShl 1 (I (b + 13) (j : Int)))))), (2, .inl ((j + 1 : Nat) : Int))]) dX2_pinnedChairs_59 rfl (by decide) rfl (by omega) rfl ?_
        refine r_goto (d := mX2_pinnedChairs) (pc := 62) (tgt := 4) dX2_pinnedChairs_62 (by decide) ?_
        exact wpE (by simp [pinO]) rfl (by rfl) (ih4 (by omega) (by omega))
  exact wpE (by simp [pinO]) rfl (by rfl) (L4 0 (by omega))
set_option maxRecDepth 20000 in
set_option maxHeartbeats 4000000 in
theorem Fn_J9_floorMod_7cf53 (k : Nat) (I : mIt) (P : mPt) (x : Int) : WP (k + 0) mJ9_floorMod_7cf53 none (0, 0) (Rt (some (.inl (x % 10000))) (lay0, I, P)) 0 [(0, .inl x), (1, .inl 10000)] [] (lay0, I, P) := by
  refine wpOkL (fun hokl => ?_)
  have hx : mI x := hokl (0, .inl x) (by simp)
  have hX := bXor_neg hx (show mI 10000 by unfold mI; decide) (by decide)
  have hT := tm10k x
  refine r_iload_n (d := mJ9_floorMod_7cf53) (pc := 0) (i := 0) (v := x) dJ9_floorMod_7cf53_0 rfl rfl ?_
  refine r_iload_n (d := mJ9_floorMod_7cf53) (pc := 1) (i := 1) (v := 10000) dJ9_floorMod_7cf53_1 rfl rfl ?_
  refine r_irem (d := mJ9_floorMod_7cf53) (pc := 2) dJ9_floorMod_7cf53_2 (by omega) ?_
  refine r_istore_n (d := mJ9_floorMod_7cf53) (pc := 3) (i := 2) (lv' := [(0, .inl x), (1, .inl 10000), (2, .inl ((x).tmod 10000))]) dJ9_floorMod_7cf53_3 rfl (by decide) rfl rfl ?_
  refine r_iload_n (d := mJ9_floorMod_7cf53) (pc := 4) (i := 0) (v := x) dJ9_floorMod_7cf53_4 rfl rfl ?_
  refine r_iload_n (d := mJ9_floorMod_7cf53) (pc := 5) (i := 1) (v := 10000) dJ9_floorMod_7cf53_5 rfl rfl ?_
  refine r_ixor (d := mJ9_floorMod_7cf53) (pc := 6) dJ9_floorMod_7cf53_6 ?_
  refine r_if_ge (d := mJ9_floorMod_7cf53) (pc := 7) (tgt := 18) dJ9_floorMod_7cf53_7 (by decide) (fun h7 => ?_) (fun h7 => ?_)
  · refine r_iload_n (d := mJ9_floorMod_7cf53) (pc := 18) (i := 2) (v := (x).tmod 10000) dJ9_floorMod_7cf53_18 rfl rfl ?_
    exact r_iret (d := mJ9_floorMod_7cf53) (pc := 19) dJ9_floorMod_7cf53_19 rfl (rtI (by omega) (by rfl)) (by decide) (by decide)
  · refine r_iload_n (d := mJ9_floorMod_7cf53) (pc := 10) (i := 2) (v := (x).tmod 10000) dJ9_floorMod_7cf53_10 rfl rfl ?_
    refine r_if_eq (d := mJ9_floorMod_7cf53) (pc := 11) (tgt := 18) dJ9_floorMod_7cf53_11 (by decide) (fun h11 => ?_) (fun h11 => ?_)
    · refine r_iload_n (d := mJ9_floorMod_7cf53) (pc := 18) (i := 2) (v := (x).tmod 10000) dJ9_floorMod_7cf53_18 rfl rfl ?_
      exact r_iret (d := mJ9_floorMod_7cf53) (pc := 19) dJ9_floorMod_7cf53_19 rfl (rtI (by omega) (by rfl)) (by decide) (by decide)
    · refine r_iload_n (d := mJ9_floorMod_7cf53) (pc := 14) (i := 2) (v := (x).tmod 10000) dJ9_floorMod_7cf53_14 rfl rfl ?_
      refine r_iload_n (d := mJ9_floorMod_7cf53) (pc := 15) (i := 1) (v := 10000) dJ9_floorMod_7cf53_15 rfl rfl ?_
      refine r_iadd (d := mJ9_floorMod_7cf53) (pc := 16) dJ9_floorMod_7cf53_16 ?_
      exact r_iret (d := mJ9_floorMod_7cf53) (pc := 17) dJ9_floorMod_7cf53_17 rfl (rtI (by omega) (by rfl)) (by decide) (by decide)
set_option maxRecDepth 20000 in
set_option maxHeartbeats 4000000 in
theorem Fn_X2_result (k : Nat) (I : mIt) (P : mPt) (what x y : Int) (hw : what = 0 ∨ what = 1 ∨ what = 2) (hx0 : 0 ≤ x) (hx1 : x ≤ 9999) (hy0 : 0 ≤ y) (hy1 : y ≤ 9999) : WP (k + 1) mX2_result none (0, 0) (Rt (some (.inl (res what x y))) (lay0, I, P)) 0 [(0, .inl what), (1, .inl x), (2, .inl y)] [] (lay0, I, P) := by
  have hxy := mul_rng hx0 hx1 hy0 hy1
  refine r_iload_n (d := mX2_result) (pc := 0) (i := 0) (v := what) dX2_result_0 rfl rfl ?_
  by_cases hs1_0 : what = 0
  · rw [hs1_0]
    refine r_lookup (d := mX2_result) (pc := 1) (tgt := 28) (off := 27) dX2_result_1 (by decide) rfl (by decide) ?_
    refine r_iload_n (d := mX2_result) (pc := 28) (i := 1) (v := x) dX2_result_28 rfl rfl ?_
    refine r_iload_n (d := mX2_result) (pc := 29) (i := 2) (v := y) dX2_result_29 rfl rfl ?_
    refine r_iadd (d := mX2_result) (pc := 30) dX2_result_30 ?_
    refine r_sipush (d := mX2_result) (pc := 31) (n := 10000) dX2_result_31 ?_
    refine r_irem (d := mX2_result) (pc := 34) dX2_result_34 (by omega) ?_
    exact r_iret (d := mX2_result) (pc := 35) dX2_result_35 rfl (rtI (by rw [res, if_pos rfl]; exact Int.tmod_eq_emod_of_nonneg (by omega)) (by rfl)) (by decide) (by decide)
  by_cases hs1_1 : what = 1
  · rw [hs1_1]
    refine r_lookup (d := mX2_result) (pc := 1) (tgt := 36) (off := 35) dX2_result_1 (by decide) rfl (by decide) ?_
    refine r_iload_n (d := mX2_result) (pc := 36) (i := 1) (v := x) dX2_result_36 rfl rfl ?_
    refine r_iload_n (d := mX2_result) (pc := 37) (i := 2) (v := y) dX2_result_37 rfl rfl ?_
    refine r_isub (d := mX2_result) (pc := 38) dX2_result_38 ?_
    refine r_sipush (d := mX2_result) (pc := 39) (n := 10000) dX2_result_39 ?_
    refine r_cS2 (d := mX2_result) (pc := 42) (dj := mJ9_floorMod_7cf53) dX2_result_42 mlRX2_175 staJ9_floorMod_7cf53 okJ9_floorMod_7cf53 (by decide) rfl (by decide) (by decide) (by decide) (Fn_J9_floorMod_7cf53 k I P (x - y)) ?_
    exact r_iret (d := mX2_result) (pc := 45) dX2_result_45 rfl (rtI (by simp [res]) (by rfl)) (by decide) (by decide)
  refine r_lookup (d := mX2_result) (pc := 1) (tgt := 46) (off := 45) dX2_result_1 (by decide) (by simp [Op.lookupswitch.offset, hs1_0, hs1_1]; try omega) (by decide) ?_
  refine r_iload_n (d := mX2_result) (pc := 46) (i := 1) (v := x) dX2_result_46 rfl rfl ?_
  refine r_iload_n (d := mX2_result) (pc := 47) (i := 2) (v := y) dX2_result_47 rfl rfl ?_
  refine r_imul (d := mX2_result) (pc := 48) dX2_result_48 ?_
  refine r_sipush (d := mX2_result) (pc := 49) (n := 10000) dX2_result_49 ?_
  refine r_irem (d := mX2_result) (pc := 52) dX2_result_52 (by omega) ?_
  exact r_iret (d := mX2_result) (pc := 53) dX2_result_53 rfl (rtI (by rw [res, if_neg hs1_0, if_neg hs1_1]; exact Int.tmod_eq_emod_of_nonneg hxy.1) (by rfl)) (by decide) (by decide)
set_option maxRecDepth 20000 in
set_option maxHeartbeats 4000000 in
theorem Fn_J6_bitCount_0f7a4 (k : Nat) (I : mIt) (P : mPt) (n : Nat) (hn : n < 256) : WP (k + 0) mJ6_bitCount_0f7a4 none (0, 0) (Rt (some (.inl (onesF (n : Int) 8))) (lay0, I, P)) 0 [(0, .inl (n : Int))] [] (lay0, I, P) := by
  obtain ⟨hb1, hb2, hb3, hb4, hb5, hb6⟩ := bc_all n hn
  refine r_iload_n (d := mJ6_bitCount_0f7a4) (pc := 0) (i := 0) (v := (n : Int)) dJ6_bitCount_0f7a4_0 rfl rfl ?_
  refine r_iload_n (d := mJ6_bitCount_0f7a4) (pc := 1) (i := 0) (v := (n : Int)) dJ6_bitCount_0f7a4_1 rfl rfl ?_
  refine r_iconst (d := mJ6_bitCount_0f7a4) (pc := 2) (n := 1) dJ6_bitCount_0f7a4_2 ?_
  refine r_iushr (d := mJ6_bitCount_0f7a4) (pc := 3) dJ6_bitCount_0f7a4_3 ?_
  refine r_ldcw (d := mJ6_bitCount_0f7a4) (pc := 4) (n := 1431655765) ctRJ6_265 dJ6_bitCount_0f7a4_4 ?_
  refine r_iand (d := mJ6_bitCount_0f7a4) (pc := 7) dJ6_bitCount_0f7a4_7 ?_
  refine r_isub (d := mJ6_bitCount_0f7a4) (pc := 8) dJ6_bitCount_0f7a4_8 ?_ (hb1)
  refine r_istore_n (d := mJ6_bitCount_0f7a4) (pc := 9) (i := 0) (lv' := [(0, .inl ((n : Int) - bAnd (bUshr (n : Int) 1) 1431655765))]) dJ6_bitCount_0f7a4_9 rfl (by decide) rfl rfl ?_
  refine r_iload_n (d := mJ6_bitCount_0f7a4) (pc := 10) (i := 0) (v := ((n : Int) - bAnd (bUshr (n : Int) 1) 1431655765)) dJ6_bitCount_0f7a4_10 rfl rfl ?_
  refine r_ldcw (d := mJ6_bitCount_0f7a4) (pc := 11) (n := 858993459) ctRJ6_266 dJ6_bitCount_0f7a4_11 ?_
  refine r_iand (d := mJ6_bitCount_0f7a4) (pc := 14) dJ6_bitCount_0f7a4_14 ?_
  refine r_iload_n (d := mJ6_bitCount_0f7a4) (pc := 15) (i := 0) (v := ((n : Int) - bAnd (bUshr (n : Int) 1) 1431655765)) dJ6_bitCount_0f7a4_15 rfl rfl ?_
  refine r_iconst (d := mJ6_bitCount_0f7a4) (pc := 16) (n := 2) dJ6_bitCount_0f7a4_16 ?_
  refine r_iushr (d := mJ6_bitCount_0f7a4) (pc := 17) dJ6_bitCount_0f7a4_17 ?_
  refine r_ldcw (d := mJ6_bitCount_0f7a4) (pc := 18) (n := 858993459) ctRJ6_266 dJ6_bitCount_0f7a4_18 ?_
  refine r_iand (d := mJ6_bitCount_0f7a4) (pc := 21) dJ6_bitCount_0f7a4_21 ?_
  refine r_iadd (d := mJ6_bitCount_0f7a4) (pc := 22) dJ6_bitCount_0f7a4_22 ?_ (hb2)
  refine r_istore_n (d := mJ6_bitCount_0f7a4) (pc := 23) (i := 0) (lv' := [(0, .inl (bAnd ((n : Int) - bAnd (bUshr (n : Int) 1) 1431655765) 858993459 + bAnd (bUshr ((n : Int) - bAnd (bUshr (n : Int) 1) 1431655765) 2) 858993459))]) dJ6_bitCount_0f7a4_23 rfl (by decide) rfl rfl ?_
  refine r_iload_n (d := mJ6_bitCount_0f7a4) (pc := 24) (i := 0) (v := (bAnd ((n : Int) - bAnd (bUshr (n : Int) 1) 1431655765) 858993459 + bAnd (bUshr ((n : Int) - bAnd (bUshr (n : Int) 1) 1431655765) 2) 858993459)) dJ6_bitCount_0f7a4_24 rfl rfl ?_
  refine r_iload_n (d := mJ6_bitCount_0f7a4) (pc := 25) (i := 0) (v := (bAnd ((n : Int) - bAnd (bUshr (n : Int) 1) 1431655765) 858993459 + bAnd (bUshr ((n : Int) - bAnd (bUshr (n : Int) 1) 1431655765) 2) 858993459)) dJ6_bitCount_0f7a4_25 rfl rfl ?_
  refine r_iconst (d := mJ6_bitCount_0f7a4) (pc := 26) (n := 4) dJ6_bitCount_0f7a4_26 ?_
  refine r_iushr (d := mJ6_bitCount_0f7a4) (pc := 27) dJ6_bitCount_0f7a4_27 ?_
  refine r_iadd (d := mJ6_bitCount_0f7a4) (pc := 28) dJ6_bitCount_0f7a4_28 ?_ (hb3)
  refine r_ldcw (d := mJ6_bitCount_0f7a4) (pc := 29) (n := 252645135) ctRJ6_267 dJ6_bitCount_0f7a4_29 ?_
  refine r_iand (d := mJ6_bitCount_0f7a4) (pc := 32) dJ6_bitCount_0f7a4_32 ?_
  refine r_istore_n (d := mJ6_bitCount_0f7a4) (pc := 33) (i := 0) (lv' := [(0, .inl (bAnd ((bAnd ((n : Int) - bAnd (bUshr (n : Int) 1) 1431655765) 858993459 + bAnd (bUshr ((n : Int) - bAnd (bUshr (n : Int) 1) 1431655765) 2) 858993459) + bUshr (bAnd ((n : Int) - bAnd (bUshr (n : Int) 1) 1431655765) 858993459 + bAnd (bUshr ((n : Int) - bAnd (bUshr (n : Int) 1) 1431655765) 2) 858993459) 4) 252645135))]) dJ6_bitCount_0f7a4_33 rfl (by decide) rfl rfl ?_
  refine r_iload_n (d := mJ6_bitCount_0f7a4) (pc := 34) (i := 0) (v := bAnd ((bAnd ((n : Int) - bAnd (bUshr (n : Int) 1) 1431655765) 858993459 + bAnd (bUshr ((n : Int) - bAnd (bUshr (n : Int) 1) 1431655765) 2) 858993459) + bUshr (bAnd ((n : Int) - bAnd (bUshr (n : Int) 1) 1431655765) 858993459 + bAnd (bUshr ((n : Int) - bAnd (bUshr (n : Int) 1) 1431655765) 2) 858993459) 4) 252645135) dJ6_bitCount_0f7a4_34 rfl rfl ?_
  refine r_iload_n (d := mJ6_bitCount_0f7a4) (pc := 35) (i := 0) (v := bAnd ((bAnd ((n : Int) - bAnd (bUshr (n : Int) 1) 1431655765) 858993459 + bAnd (bUshr ((n : Int) - bAnd (bUshr (n : Int) 1) 1431655765) 2) 858993459) + bUshr (bAnd ((n : Int) - bAnd (bUshr (n : Int) 1) 1431655765) 858993459 + bAnd (bUshr ((n : Int) - bAnd (bUshr (n : Int) 1) 1431655765) 2) 858993459) 4) 252645135) dJ6_bitCount_0f7a4_35 rfl rfl ?_
  refine r_bipush (d := mJ6_bitCount_0f7a4) (pc := 36) (n := 8) dJ6_bitCount_0f7a4_36 ?_
  refine r_iushr (d := mJ6_bitCount_0f7a4) (pc := 38) dJ6_bitCount_0f7a4_38 ?_
  refine r_iadd (d := mJ6_bitCount_0f7a4) (pc := 39) dJ6_bitCount_0f7a4_39 ?_ (hb4)
  refine r_istore_n (d := mJ6_bitCount_0f7a4) (pc := 40) (i := 0) (lv' := [(0, .inl (bAnd ((bAnd ((n : Int) - bAnd (bUshr (n : Int) 1) 1431655765) 858993459 + bAnd (bUshr ((n : Int) - bAnd (bUshr (n : Int) 1) 1431655765) 2) 858993459) + bUshr (bAnd ((n : Int) - bAnd (bUshr (n : Int) 1) 1431655765) 858993459 + bAnd (bUshr ((n : Int) - bAnd (bUshr (n : Int) 1) 1431655765) 2) 858993459) 4) 252645135 + bUshr (bAnd ((bAnd ((n : Int) - bAnd (bUshr (n : Int) 1) 1431655765) 858993459 + bAnd (bUshr ((n : Int) - bAnd (bUshr (n : Int) 1) 1431655765) 2) 858993459) + bUshr (bAnd ((n : Int) - bAnd (bUshr (n : Int) 1) 1431655765) 858993459 + bAnd (bUshr ((n : Int) - bAnd (bUshr (n : Int) 1) 1431655765) 2) 858993459) 4) 252645135) 8))]) dJ6_bitCount_0f7a4_40 rfl (by decide) rfl rfl ?_
  refine r_iload_n (d := mJ6_bitCount_0f7a4) (pc := 41) (i := 0) (v := (bAnd ((bAnd ((n : Int) - bAnd (bUshr (n : Int) 1) 1431655765) 858993459 + bAnd (bUshr ((n : Int) - bAnd (bUshr (n : Int) 1) 1431655765) 2) 858993459) + bUshr (bAnd ((n : Int) - bAnd (bUshr (n : Int) 1) 1431655765) 858993459 + bAnd (bUshr ((n : Int) - bAnd (bUshr (n : Int) 1) 1431655765) 2) 858993459) 4) 252645135 + bUshr (bAnd ((bAnd ((n : Int) - bAnd (bUshr (n : Int) 1) 1431655765) 858993459 + bAnd (bUshr ((n : Int) - bAnd (bUshr (n : Int) 1) 1431655765) 2) 858993459) + bUshr (bAnd ((n : Int) - bAnd (bUshr (n : Int) 1) 1431655765) 858993459 + bAnd (bUshr ((n : Int) - bAnd (bUshr (n : Int) 1) 1431655765) 2) 858993459) 4) 252645135) 8)) dJ6_bitCount_0f7a4_41 rfl rfl ?_
  refine r_iload_n (d := mJ6_bitCount_0f7a4) (pc := 42) (i := 0) (v := (bAnd ((bAnd ((n : Int) - bAnd (bUshr (n : Int) 1) 1431655765) 858993459 + bAnd (bUshr ((n : Int) - bAnd (bUshr (n : Int) 1) 1431655765) 2) 858993459) + bUshr (bAnd ((n : Int) - bAnd (bUshr (n : Int) 1) 1431655765) 858993459 + bAnd (bUshr ((n : Int) - bAnd (bUshr (n : Int) 1) 1431655765) 2) 858993459) 4) 252645135 + bUshr (bAnd ((bAnd ((n : Int) - bAnd (bUshr (n : Int) 1) 1431655765) 858993459 + bAnd (bUshr ((n : Int) - bAnd (bUshr (n : Int) 1) 1431655765) 2) 858993459) + bUshr (bAnd ((n : Int) - bAnd (bUshr (n : Int) 1) 1431655765) 858993459 + bAnd (bUshr ((n : Int) - bAnd (bUshr (n : Int) 1) 1431655765) 2) 858993459) 4) 252645135) 8)) dJ6_bitCount_0f7a4_42 rfl rfl ?_
  refine r_bipush (d := mJ6_bitCount_0f7a4) (pc := 43) (n := 16) dJ6_bitCount_0f7a4_43 ?_
  refine r_iushr (d := mJ6_bitCount_0f7a4) (pc := 45) dJ6_bitCount_0f7a4_45 ?_
  refine r_iadd (d := mJ6_bitCount_0f7a4) (pc := 46) dJ6_bitCount_0f7a4_46 ?_ (hb5)
  refine r_istore_n (d := mJ6_bitCount_0f7a4) (pc := 47) (i := 0) (lv' := [(0, .inl ((bAnd ((bAnd ((n : Int) - bAnd (bUshr (n : Int) 1) 1431655765) 858993459 + bAnd (bUshr ((n : Int) - bAnd (bUshr (n : Int) 1) 1431655765) 2) 858993459) + bUshr (bAnd ((n : Int) - bAnd (bUshr (n : Int) 1) 1431655765) 858993459 + bAnd (bUshr ((n : Int) - bAnd (bUshr (n : Int) 1) 1431655765) 2) 858993459) 4) 252645135 + bUshr (bAnd ((bAnd ((n : Int) - bAnd (bUshr (n : Int) 1) 1431655765) 858993459 + bAnd (bUshr ((n : Int) - bAnd (bUshr (n : Int) 1) 1431655765) 2) 858993459) + bUshr (bAnd ((n : Int) - bAnd (bUshr (n : Int) 1) 1431655765) 858993459 + bAnd (bUshr ((n : Int) - bAnd (bUshr (n : Int) 1) 1431655765) 2) 858993459) 4) 252645135) 8) + bUshr (bAnd ((bAnd ((n : Int) - bAnd (bUshr (n : Int) 1) 1431655765) 858993459 + bAnd (bUshr ((n : Int) - bAnd (bUshr (n : Int) 1) 1431655765) 2) 858993459) + bUshr (bAnd ((n : Int) - bAnd (bUshr (n : Int) 1) 1431655765) 858993459 + bAnd (bUshr ((n : Int) - bAnd (bUshr (n : Int) 1) 1431655765) 2) 858993459) 4) 252645135 + bUshr (bAnd ((bAnd ((n : Int) - bAnd (bUshr (n : Int) 1) 1431655765) 858993459 + bAnd (bUshr ((n : Int) - bAnd (bUshr (n : Int) 1) 1431655765) 2) 858993459) + bUshr (bAnd ((n : Int) - bAnd (bUshr (n : Int) 1) 1431655765) 858993459 + bAnd (bUshr ((n : Int) - bAnd (bUshr (n : Int) 1) 1431655765) 2) 858993459) 4) 252645135) 8) 16))]) dJ6_bitCount_0f7a4_47 rfl (by decide) rfl rfl ?_
  refine r_iload_n (d := mJ6_bitCount_0f7a4) (pc := 48) (i := 0) (v := ((bAnd ((bAnd ((n : Int) - bAnd (bUshr (n : Int) 1) 1431655765) 858993459 + bAnd (bUshr ((n : Int) - bAnd (bUshr (n : Int) 1) 1431655765) 2) 858993459) + bUshr (bAnd ((n : Int) - bAnd (bUshr (n : Int) 1) 1431655765) 858993459 + bAnd (bUshr ((n : Int) - bAnd (bUshr (n : Int) 1) 1431655765) 2) 858993459) 4) 252645135 + bUshr (bAnd ((bAnd ((n : Int) - bAnd (bUshr (n : Int) 1) 1431655765) 858993459 + bAnd (bUshr ((n : Int) - bAnd (bUshr (n : Int) 1) 1431655765) 2) 858993459) + bUshr (bAnd ((n : Int) - bAnd (bUshr (n : Int) 1) 1431655765) 858993459 + bAnd (bUshr ((n : Int) - bAnd (bUshr (n : Int) 1) 1431655765) 2) 858993459) 4) 252645135) 8) + bUshr (bAnd ((bAnd ((n : Int) - bAnd (bUshr (n : Int) 1) 1431655765) 858993459 + bAnd (bUshr ((n : Int) - bAnd (bUshr (n : Int) 1) 1431655765) 2) 858993459) + bUshr (bAnd ((n : Int) - bAnd (bUshr (n : Int) 1) 1431655765) 858993459 + bAnd (bUshr ((n : Int) - bAnd (bUshr (n : Int) 1) 1431655765) 2) 858993459) 4) 252645135 + bUshr (bAnd ((bAnd ((n : Int) - bAnd (bUshr (n : Int) 1) 1431655765) 858993459 + bAnd (bUshr ((n : Int) - bAnd (bUshr (n : Int) 1) 1431655765) 2) 858993459) + bUshr (bAnd ((n : Int) - bAnd (bUshr (n : Int) 1) 1431655765) 858993459 + bAnd (bUshr ((n : Int) - bAnd (bUshr (n : Int) 1) 1431655765) 2) 858993459) 4) 252645135) 8) 16)) dJ6_bitCount_0f7a4_48 rfl rfl ?_
  refine r_bipush (d := mJ6_bitCount_0f7a4) (pc := 49) (n := 63) dJ6_bitCount_0f7a4_49 ?_
  refine r_iand (d := mJ6_bitCount_0f7a4) (pc := 51) dJ6_bitCount_0f7a4_51 ?_
  exact r_iret (d := mJ6_bitCount_0f7a4) (pc := 52) dJ6_bitCount_0f7a4_52 rfl (rtI (by exact hb6) (by rfl)) (by decide) (by decide)
