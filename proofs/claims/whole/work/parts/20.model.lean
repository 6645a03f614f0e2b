/-! ===== the model: what its methods do to its row ===== -/
theorem ly155 : lay0[155]? = some (6, 13) := by decide +kernel
theorem ly156 : lay0[156]? = some (10, 153) := by decide +kernel
theorem ly157 : lay0[157]? = some (10, 612) := by decide +kernel
theorem ly158 : lay0[158]? = some (10, 153) := by decide +kernel
theorem ly159 : lay0[159]? = some (10, 153) := by decide +kernel
theorem ly160 : lay0[160]? = some (10, 80) := by decide +kernel
theorem ly161 : lay0[161]? = some (10, 7) := by decide +kernel
theorem ly162 : lay0[162]? = some (10, 3) := by decide +kernel
def isMd (P : mPt) : Prop := P 155 0 = some 156 ∧ P 155 1 = some 157 ∧ P 155 2 = some 158 ∧ P 155 3 = some 159 ∧ P 155 6 = some 160 ∧ P 155 8 = some 161 ∧ P 155 12 = some 162
theorem arS_arS (I : mIt) (a : Nat) (f g : Int → Int) : arS (arS I a f) a g = arS I a g := by
  funext x
  unfold arS
  by_cases h : x = a <;> simp [h]
theorem mUpA (I : mIt) (a : Nat) (i v : Int) : mUp I a i v = arS I a (fset (I a) i v) := rfl
def hadM (s : Int → Int) (c : Int) : Bool := anyE (fun n => s (12 + n)) c 8
def mkI (s : Int → Int) (c : Int) (m : Nat) (x : Int) : Nat → Int
  | 0 => x
  | n + 1 => bOr (mkI s c m x n) (if s (63 + 16 * (m : Int) + (n : Int)) = c then bShl 1 m else 0)
def mkM (s : Int → Int) (c : Int) : Nat → Int
  | 0 => 0
  | m + 1 => mkI s c m (mkM s c m) 8
def rdM (s : Int → Int) (c : Int) (n : Nat) : Int := rdrs (fun k => s (111 + 7 * k + 2)) (fun k => s (111 + 7 * k + 3)) c n
def ofM (s : Int → Int) (c : Int) (n : Nat) : Bool := anyE (fun k => s (111 + 7 * k + 1)) c n
theorem ofM_s (s : Int → Int) (c : Int) (n : Nat) : ofM s c (n + 1) = (ofM s c n || decide (s (111 + 7 * (n : Int) + 1) = c)) := rfl
def ndM (s : Int → Int) (n m : Nat) (c : Int) : Bool := hadM s c || decide (0 < mkM s c m) || decide (0 < rdM s c n) || ofM s c n
def frM (s : Int → Int) (n m : Nat) : Nat → Int → Int
  | 0 => s
  | c + 1 => fset (frM s n m c) (28 + 5 * (c : Int) + 0) (if ndM s n m c = true then s (28 + 5 * (c : Int) + 0) else 0)
theorem frM_ne (s : Int → Int) (n m c : Nat) (i : Int) (h : ∀ k : Nat, k < c → i ≠ 28 + 5 * (k : Int) + 0) : frM s n m c i = s i := by
  induction c with
  | zero => rfl
  | succ c ih =>
    unfold frM
    rw [fset_ne _ _ (h c (by omega))]
    exact ih (fun k hk => h k (by omega))
theorem frM_lo (s : Int → Int) (n m c : Nat) {i : Int} (h : i < 28) : frM s n m c i = s i := frM_ne _ _ _ _ _ (fun k _ => by omega)
theorem frM_hi (s : Int → Int) (n m c : Nat) (hc : c ≤ 7) {i : Int} (h : 63 ≤ i) : frM s n m c i = s i := frM_ne _ _ _ _ _ (fun k _ => by omega)
theorem anyE_congr {f g : Int → Int} (w : Int) (n : Nat) (h : ∀ i : Nat, i < n → f i = g i) : anyE f w n = anyE g w n := by
  induction n with
  | zero => rfl
  | succ n ih => unfold anyE; rw [ih (fun i hi => h i (by omega)), h n (by omega)]
theorem rdrs_congr {f g f2 g2 : Int → Int} (w : Int) (n : Nat) (h : ∀ i : Nat, i < n → f i = f2 i ∧ g i = g2 i) : rdrs f g w n = rdrs f2 g2 w n := by
  induction n with
  | zero => rfl
  | succ n ih => unfold rdrs; rw [ih (fun i hi => h i (by omega)), (h n (by omega)).1, (h n (by omega)).2]
theorem mkI_congr {s t : Int → Int} (c : Int) (m : Nat) (x : Int) (k : Nat) (h : ∀ i : Int, 63 ≤ i → s i = t i) : mkI s c m x k = mkI t c m x k := by
  induction k with
  | zero => rfl
  | succ k ih => unfold mkI; rw [ih, h _ (by omega)]
theorem mkM_congr {s t : Int → Int} (c : Int) (m : Nat) (h : ∀ i : Int, 63 ≤ i → s i = t i) : mkM s c m = mkM t c m := by
  induction m with
  | zero => rfl
  | succ m ih => unfold mkM; rw [ih, mkI_congr _ _ _ _ h]
/-- what is needed depends on seats, marks and orders alone -/
theorem ndM_congr {s t : Int → Int} (n m : Nat) (c : Int) (h1 : ∀ i : Int, 12 ≤ i → i < 20 → s i = t i) (h2 : ∀ i : Int, 63 ≤ i → s i = t i) : ndM s n m c = ndM t n m c := by
  unfold ndM hadM rdM ofM
  rw [anyE_congr (f := fun n => s (12 + n)) (g := fun n => t (12 + n)) c 8 (fun i hi => h1 _ (by omega) (by omega)), mkM_congr c m h2, rdrs_congr (f := fun k => s (111 + 7 * k + 2)) (g := fun k => s (111 + 7 * k + 3)) (f2 := fun k => t (111 + 7 * k + 2)) (g2 := fun k => t (111 + 7 * k + 3)) c n (fun i hi => ⟨h2 _ (by omega), h2 _ (by omega)⟩), anyE_congr (f := fun k => s (111 + 7 * k + 1)) (g := fun k => t (111 + 7 * k + 1)) c n (fun i hi => h2 _ (by omega))]
theorem mkI_mono (s : Int → Int) (c : Int) (m : Nat) (x : Int) (k : Nat) : True := trivial
def rdP (s : Int → Int) (one other c : Int) : Prop := 0 ≤ one ∧ (s (12 + one) = c ∨ s (12 + other) = c)
def mayM (s : Int → Int) (n m : Nat) (one other c : Int) : Bool := decide (s (28 + 5 * c + 0) = 1) && decide (s (28 + 5 * c + 2) = 1) && decide (mkM s c m = 0) && decide (rdM s c n = 0) && !ofM s c n && !decide (0 ≤ one ∧ (s (12 + one) = c ∨ s (12 + other) = c))
def nxM (s : Int → Int) (n m : Nat) (one other : Int) : Nat → Int
  | 0 => -4
  | c + 1 => if mayM s n m one other c = true ∧ (nxM s n m one other c < 0 ∨ s (28 + 5 * (c : Int) + 4) < s (28 + 5 * (nxM s n m one other c) + 4)) then c else nxM s n m one other c
theorem nxM_rng (s : Int → Int) (n m : Nat) (one other : Int) (c : Nat) : nxM s n m one other c = -4 ∨ (0 ≤ nxM s n m one other c ∧ nxM s n m one other c < c) := by
  induction c with
  | zero => exact Or.inl rfl
  | succ c ih => unfold nxM; split <;> omega
set_option maxRecDepth 20000 in
set_option maxHeartbeats 4000000 in
theorem Fn_X6_in (k : Nat) (I : mIt) (P : mPt) (x lo hi : Int) : WP (k + 0) mX6_in none (0, 0) (Rt (some (.inl (bI (lo ≤ x ∧ x ≤ hi)))) (lay0, I, P)) 0 [(0, .inl x), (1, .inl lo), (2, .inl hi)] [] (lay0, I, P) := by
  refine r_iload_n (d := mX6_in) (pc := 0) (i := 0) (v := x) dX6_in_0 rfl rfl ?_
  refine r_iload_n (d := mX6_in) (pc := 1) (i := 1) (v := lo) dX6_in_1 rfl rfl ?_
  refine r_icmp_lt (d := mX6_in) (pc := 2) (tgt := 14) dX6_in_2 (by decide) (fun h2 => ?_) (fun h2 => ?_)
  · refine r_iconst (d := mX6_in) (pc := 14) (n := 0) dX6_in_14 ?_
    exact r_zret (d := mX6_in) (pc := 15) dX6_in_15 rfl (Or.inl rfl) (rtI (by first | exact (bI_t (by omega)).symm | exact (bI_f (by omega)).symm) (by rfl)) (by decide) (by decide)
  · refine r_iload_n (d := mX6_in) (pc := 5) (i := 0) (v := x) dX6_in_5 rfl rfl ?_
    refine r_iload_n (d := mX6_in) (pc := 6) (i := 2) (v := hi) dX6_in_6 rfl rfl ?_
    refine r_icmp_gt (d := mX6_in) (pc := 7) (tgt := 14) dX6_in_7 (by decide) (fun h7 => ?_) (fun h7 => ?_)
    · refine r_iconst (d := mX6_in) (pc := 14) (n := 0) dX6_in_14 ?_
      exact r_zret (d := mX6_in) (pc := 15) dX6_in_15 rfl (Or.inl rfl) (rtI (by first | exact (bI_t (by omega)).symm | exact (bI_f (by omega)).symm) (by rfl)) (by decide) (by decide)
    · refine r_iconst (d := mX6_in) (pc := 10) (n := 1) dX6_in_10 ?_
      refine r_goto (d := mX6_in) (pc := 11) (tgt := 15) dX6_in_11 (by decide) ?_
      exact r_zret (d := mX6_in) (pc := 15) dX6_in_15 rfl (Or.inr rfl) (rtI (by first | exact (bI_t (by omega)).symm | exact (bI_f (by omega)).symm) (by rfl)) (by decide) (by decide)
set_option maxRecDepth 20000 in
set_option maxHeartbeats 4000000 in
theorem Fn_X6_isName (k : Nat) (I : mIt) (P : mPt) (x : Int) : WP (k + 1) mX6_isName none (0, 0) (Rt (some (.inl (bI (0 ≤ x ∧ x ≤ 7)))) (lay0, I, P)) 0 [(0, .inl x)] [] (lay0, I, P) := by
  refine r_iload_n (d := mX6_isName) (pc := 0) (i := 0) (v := x) dX6_isName_0 rfl rfl ?_
  refine r_iconst (d := mX6_isName) (pc := 1) (n := 0) dX6_isName_1 ?_
  refine r_bipush (d := mX6_isName) (pc := 2) (n := 7) dX6_isName_2 ?_
  refine r_cS3 (d := mX6_isName) (pc := 4) (dj := mX6_in) dX6_isName_4 mlRX6_43 staX6_in okX6_in (by decide) rfl (Nat.le_of_ble_eq_true rfl) (by decide) (by decide) (Fn_X6_in k I P   x 0 7) ?_
  exact r_zret (d := mX6_isName) (pc := 7) dX6_isName_7 rfl (bI_01 _) (rtI (by rfl) (by rfl)) (by decide) (by decide)
set_option maxRecDepth 20000 in
set_option maxHeartbeats 4000000 in
theorem Fn_X6_at (k : Nat) (I : mIt) (P : mPt) (x y : Int) (h1 : -1000 ≤ x) (h2 : x ≤ 1000) (h3 : -1000 ≤ y) (h4 : y ≤ 1000) : WP (k + 0) mX6_at none (0, 0) (Rt (some (.inl (28 + 5 * x + y))) (lay0, I, P)) 0 [(0, .inl x), (1, .inl y)] [] (lay0, I, P) := by
  refine r_bipush (d := mX6_at) (pc := 0) (n := 28) dX6_at_0 ?_
  refine r_iconst (d := mX6_at) (pc := 2) (n := 5) dX6_at_2 ?_
  refine r_iload_n (d := mX6_at) (pc := 3) (i := 0) (v := x) dX6_at_3 rfl rfl ?_
  refine r_imul (d := mX6_at) (pc := 4) dX6_at_4 ?_
  refine r_iadd (d := mX6_at) (pc := 5) dX6_at_5 ?_
  refine r_iload_n (d := mX6_at) (pc := 6) (i := 1) (v := y) dX6_at_6 rfl rfl ?_
  refine r_iadd (d := mX6_at) (pc := 7) dX6_at_7 ?_
  exact r_iret (d := mX6_at) (pc := 8) dX6_at_8 rfl (rtI (by rfl) (by rfl)) (by decide) (by decide)
set_option maxRecDepth 20000 in
set_option maxHeartbeats 4000000 in
theorem Fn_X6_ofOrder (k : Nat) (I : mIt) (P : mPt) (x y : Int) (h1 : -1000 ≤ x) (h2 : x ≤ 1000) (h3 : -1000 ≤ y) (h4 : y ≤ 1000) : WP (k + 0) mX6_ofOrder none (0, 0) (Rt (some (.inl (111 + 7 * x + y))) (lay0, I, P)) 0 [(0, .inl x), (1, .inl y)] [] (lay0, I, P) := by
  refine r_bipush (d := mX6_ofOrder) (pc := 0) (n := 111) dX6_ofOrder_0 ?_
  refine r_bipush (d := mX6_ofOrder) (pc := 2) (n := 7) dX6_ofOrder_2 ?_
  refine r_iload_n (d := mX6_ofOrder) (pc := 4) (i := 0) (v := x) dX6_ofOrder_4 rfl rfl ?_
  refine r_imul (d := mX6_ofOrder) (pc := 5) dX6_ofOrder_5 ?_
  refine r_iadd (d := mX6_ofOrder) (pc := 6) dX6_ofOrder_6 ?_
  refine r_iload_n (d := mX6_ofOrder) (pc := 7) (i := 1) (v := y) dX6_ofOrder_7 rfl rfl ?_
  refine r_iadd (d := mX6_ofOrder) (pc := 8) dX6_ofOrder_8 ?_
  exact r_iret (d := mX6_ofOrder) (pc := 9) dX6_ofOrder_9 rfl (rtI (by rfl) (by rfl)) (by decide) (by decide)
set_option maxRecDepth 20000 in
set_option maxHeartbeats 4000000 in
theorem Fn_X6_copies (k : Nat) (I : mIt) (P : mPt) (x y : Nat) (hx : lay0[x]? = some (10, 153)) (hy : lay0[y]? = some (10, 153)) (hxy : x ≠ y) : WP (k + 0) mX6_copies none (0, 0) (Rt none (lay0, cpy I y 153 (I x), P)) 0 [(0, .inr (some x)), (1, .inr (some y))] [] (lay0, I, P) := by
  refine r_iconst (d := mX6_copies) (pc := 0) (n := 0) dX6_copies_0 ?_
  refine r_istore_n (d := mX6_copies) (pc := 1) (i := 2) (lv' := [(0, .inr (some x)), (1, .inr (some y)), (2, .inl 0)]) dX6_copies_1 rfl (by decide) rfl rfl ?_
  have L2 : ∀ j : Nat, j ≤ 153 → WP (k + 0) mX6_copies none (0, 0) (Rt none (lay0, cpy I y 153 (I x), P)) 2 [(0, .inr (some x)), (1, .inr (some y)), (2, .inl (j : Int))] [] (lay0, cpy I y j (I x), P) := by
    refine loopN (153) _ (fun j ih2 hj2 => ?_)
    refine r_iload_n (d := mX6_copies) (pc := 2) (i := 2) (v := (j : Int)) dX6_copies_2 rfl rfl ?_
    refine r_sipush (d := mX6_copies) (pc := 3) (n := 153) dX6_copies_3 ?_
    refine r_icmp_ge (d := mX6_copies) (pc := 6) (tgt := 21) dX6_copies_6 (by decide) (fun h6 => ?_) (fun h6 => ?_)
    · exact r_ret (d := mX6_copies) (pc := 21) dX6_copies_21 rfl (rtV (by rw [show j = 153 by omega])) (by decide) (by decide)
    · refine r_aload_n (d := mX6_copies) (pc := 9) (i := 1) (v := y) dX6_copies_9 rfl rfl ?_
      refine r_iload_n (d := mX6_copies) (pc := 10) (i := 2) (v := (j : Int)) dX6_copies_10 rfl rfl ?_
      refine r_aload_n (d := mX6_copies) (pc := 11) (i := 0) (v := x) dX6_copies_11 rfl rfl ?_
      refine r_iload_n (d := mX6_copies) (pc := 12) (i := 2) (v := (j : Int)) dX6_copies_12 rfl rfl ?_
      refine r_ialds (d := mX6_copies) (pc := 13) (a := x) (x := (I x (j : Int))) dX6_copies_13 hx (by omega) (by omega) (by simp [mUp, cpy, fset, hxy, Ne.symm hxy]) ?_
      refine r_iasts (d := mX6_copies) (pc := 14) (a := y) (lay0, mUp (cpy I y j (I x)) y (j : Int) (I x (j : Int)), P) dX6_copies_14 hy (by omega) (by omega) rfl ?_
      refine r_iinc (d := mX6_copies) (pc := 15) (i := 2) (v := (j : Int)) (y := ((j + 1 : Nat) : Int)) (lv' := [(0, .inr (some x)), (1, .inr (some y)), (2, .inl ((j + 1 : Nat) : Int))]) dX6_copies_15 rfl (by decide) rfl (by omega) rfl ?_
      refine r_goto (d := mX6_copies) (pc := 18) (tgt := 2) dX6_copies_18 (by decide) ?_
      exact wpE (by simp) rfl (by refine memE ?_; exact cpy_s _ _ _ _ _ rfl) (ih2 (by omega) (by omega))
  exact wpE (by simp) rfl (by rw [cpy_0]) (L2 0 (by omega))
set_option maxRecDepth 20000 in
set_option maxHeartbeats 4000000 in
theorem Fn_X6_isMark (k : Nat) (I : mIt) (P : mPt) (hM : isMd P) (m : Int) : WP (k + 0) mX6_isMark none (0, 0) (Rt (some (.inl (bI (0 ≤ m ∧ m < I 156 2)))) (lay0, I, P)) 0 [(0, .inr (some 155)), (1, .inl m)] [] (lay0, I, P) := by
  refine r_iload_n (d := mX6_isMark) (pc := 0) (i := 1) (v := m) dX6_isMark_0 rfl rfl ?_
  refine r_if_lt (d := mX6_isMark) (pc := 1) (tgt := 18) dX6_isMark_1 (by decide) (fun h1 => ?_) (fun h1 => ?_)
  · refine r_iconst (d := mX6_isMark) (pc := 18) (n := 0) dX6_isMark_18 ?_
    exact r_zret (d := mX6_isMark) (pc := 19) dX6_isMark_19 rfl (Or.inl rfl) (rtI (by first | exact (bI_t (by omega)).symm | exact (bI_f (by omega)).symm) (by rfl)) (by decide) (by decide)
  · refine r_iload_n (d := mX6_isMark) (pc := 4) (i := 1) (v := m) dX6_isMark_4 rfl rfl ?_
    refine r_aload_n (d := mX6_isMark) (pc := 5) (i := 0) (v := 155) dX6_isMark_5 rfl rfl ?_
    refine r_getRs (d := mX6_isMark) (pc := 6) (a := 155) (kd := 6) (j := 0) (x := 156) dX6_isMark_6 flRX6_7 ly155 (by decide) (by decide) rfl hM.1 ?_
    refine r_iconst (d := mX6_isMark) (pc := 9) (n := 2) dX6_isMark_9 ?_
    refine r_ialds (d := mX6_isMark) (pc := 10) (a := 156) (x := (I 156 2)) dX6_isMark_10 ly156 (by decide) (by decide) (rfl) ?_
    refine r_icmp_ge (d := mX6_isMark) (pc := 11) (tgt := 18) dX6_isMark_11 (by decide) (fun h11 => ?_) (fun h11 => ?_)
    · refine r_iconst (d := mX6_isMark) (pc := 18) (n := 0) dX6_isMark_18 ?_
      exact r_zret (d := mX6_isMark) (pc := 19) dX6_isMark_19 rfl (Or.inl rfl) (rtI (by first | exact (bI_t (by omega)).symm | exact (bI_f (by omega)).symm) (by rfl)) (by decide) (by decide)
    · refine r_iconst (d := mX6_isMark) (pc := 14) (n := 1) dX6_isMark_14 ?_
      refine r_goto (d := mX6_isMark) (pc := 15) (tgt := 19) dX6_isMark_15 (by decide) ?_
      exact r_zret (d := mX6_isMark) (pc := 19) dX6_isMark_19 rfl (Or.inr rfl) (rtI (by first | exact (bI_t (by omega)).symm | exact (bI_f (by omega)).symm) (by rfl)) (by decide) (by decide)
set_option maxRecDepth 20000 in
set_option maxHeartbeats 4000000 in
theorem Fn_X6_isHad (k : Nat) (I : mIt) (P : mPt) (hM : isMd P) (c : Int) : WP (k + 0) mX6_isHad none (0, 0) (Rt (some (.inl (bI (hadM (I 156) c = true)))) (lay0, I, P)) 0 [(0, .inr (some 155)), (1, .inl c)] [] (lay0, I, P) := by
  refine r_iconst (d := mX6_isHad) (pc := 0) (n := 0) dX6_isHad_0 ?_
  refine r_istore_n (d := mX6_isHad) (pc := 1) (i := 2) (lv' := [(0, .inr (some 155)), (1, .inl c), (2, .inl 0)]) dX6_isHad_1 rfl (by decide) rfl rfl ?_
  refine r_iconst (d := mX6_isHad) (pc := 2) (n := 0) dX6_isHad_2 ?_
  refine r_istore_n (d := mX6_isHad) (pc := 3) (i := 3) (lv' := [(0, .inr (some 155)), (1, .inl c), (2, .inl 0), (3, .inl 0)]) dX6_isHad_3 rfl (by decide) rfl rfl ?_
  have L4 : ∀ j : Nat, j ≤ 8 → WP (k + 0) mX6_isHad none (0, 0) (Rt (some (.inl (bI (hadM (I 156) c = true)))) (lay0, I, P)) 4 [(0, .inr (some 155)), (1, .inl c), (2, .inl (bI (anyE (fun n => I 156 (12 + n)) c j = true))), (3, .inl (j : Int))] [] (lay0, I, P) := by
    refine loopN (8) _ (fun j ih4 hj4 => ?_)
    refine r_iload_n (d := mX6_isHad) (pc := 4) (i := 3) (v := (j : Int)) dX6_isHad_4 rfl rfl ?_
    refine r_bipush (d := mX6_isHad) (pc := 5) (n := 8) dX6_isHad_5 ?_
    refine r_icmp_ge (d := mX6_isHad) (pc := 7) (tgt := 39) dX6_isHad_7 (by decide) (fun h7 => ?_) (fun h7 => ?_)
    · refine r_iload_n (d := mX6_isHad) (pc := 39) (i := 2) (v := bI (anyE (fun n => I 156 (12 + n)) c j = true)) dX6_isHad_39 rfl rfl ?_
      exact r_zret (d := mX6_isHad) (pc := 40) dX6_isHad_40 rfl (bI_01 _) (rtI (by rw [show j = 8 by omega]; rfl) (by rfl)) (by decide) (by decide)
    · refine r_iload_n (d := mX6_isHad) (pc := 10) (i := 2) (v := bI (anyE (fun n => I 156 (12 + n)) c j = true)) dX6_isHad_10 rfl rfl ?_
      refine r_ifb_ne (d := mX6_isHad) (pc := 11) (tgt := 27) dX6_isHad_11 (by decide) (fun h11 => ?_) (fun h11 => ?_)
      · refine r_iconst (d := mX6_isHad) (pc := 27) (n := 1) dX6_isHad_27 ?_
        refine r_goto (d := mX6_isHad) (pc := 28) (tgt := 32) dX6_isHad_28 (by decide) ?_
        refine r_istore_n (d := mX6_isHad) (pc := 32) (i := 2) (lv' := [(0, .inr (some 155)), (1, .inl c), (2, .inl 1), (3, .inl (j : Int))]) dX6_isHad_32 rfl (by decide) rfl rfl ?_
        refine r_iinc (d := mX6_isHad) (pc := 33) (i := 3) (v := (j : Int)) (y := ((j + 1 : Nat) : Int)) (lv' := [(0, .inr (some 155)), (1, .inl c), (2, .inl 1), (3, .inl ((j + 1 : Nat) : Int))]) dX6_isHad_33 rfl (by decide) rfl (by omega) rfl ?_
        refine r_goto (d := mX6_isHad) (pc := 36) (tgt := 4) dX6_isHad_36 (by decide) ?_
        exact wpE (by simp [anyE, bI, *]) rfl (by rfl) (ih4 (by omega) (by omega))
      · refine r_aload_n (d := mX6_isHad) (pc := 14) (i := 0) (v := 155) dX6_isHad_14 rfl rfl ?_
        refine r_getRs (d := mX6_isHad) (pc := 15) (a := 155) (kd := 6) (j := 0) (x := 156) dX6_isHad_15 flRX6_7 ly155 (by decide) (by decide) rfl hM.1 ?_
        refine r_bipush (d := mX6_isHad) (pc := 18) (n := 12) dX6_isHad_18 ?_
        refine r_iload_n (d := mX6_isHad) (pc := 20) (i := 3) (v := (j : Int)) dX6_isHad_20 rfl rfl ?_
        refine r_iadd (d := mX6_isHad) (pc := 21) dX6_isHad_21 ?_
        refine r_ialds (d := mX6_isHad) (pc := 22) (a := 156) (x := (I 156 (12 + (j : Int)))) dX6_isHad_22 ly156 (by omega) (by omega) (rfl) ?_
        refine r_iload_n (d := mX6_isHad) (pc := 23) (i := 1) (v := c) dX6_isHad_23 rfl rfl ?_
        refine r_icmp_ne (d := mX6_isHad) (pc := 24) (tgt := 31) dX6_isHad_24 (by decide) (fun h24 => ?_) (fun h24 => ?_)
        · refine r_iconst (d := mX6_isHad) (pc := 31) (n := 0) dX6_isHad_31 ?_
          refine r_istore_n (d := mX6_isHad) (pc := 32) (i := 2) (lv' := [(0, .inr (some 155)), (1, .inl c), (2, .inl 0), (3, .inl (j : Int))]) dX6_isHad_32 rfl (by decide) rfl rfl ?_
          refine r_iinc (d := mX6_isHad) (pc := 33) (i := 3) (v := (j : Int)) (y := ((j + 1 : Nat) : Int)) (lv' := [(0, .inr (some 155)), (1, .inl c), (2, .inl 0), (3, .inl ((j + 1 : Nat) : Int))]) dX6_isHad_33 rfl (by decide) rfl (by omega) rfl ?_
          refine r_goto (d := mX6_isHad) (pc := 36) (tgt := 4) dX6_isHad_36 (by decide) ?_
          exact wpE (by simp [anyE, bI, *]) rfl (by rfl) (ih4 (by omega) (by omega))
        · refine r_iconst (d := mX6_isHad) (pc := 27) (n := 1) dX6_isHad_27 ?_
          refine r_goto (d := mX6_isHad) (pc := 28) (tgt := 32) dX6_isHad_28 (by decide) ?_
          refine r_istore_n (d := mX6_isHad) (pc := 32) (i := 2) (lv' := [(0, .inr (some 155)), (1, .inl c), (2, .inl 1), (3, .inl (j : Int))]) dX6_isHad_32 rfl (by decide) rfl rfl ?_
          refine r_iinc (d := mX6_isHad) (pc := 33) (i := 3) (v := (j : Int)) (y := ((j + 1 : Nat) : Int)) (lv' := [(0, .inr (some 155)), (1, .inl c), (2, .inl 1), (3, .inl ((j + 1 : Nat) : Int))]) dX6_isHad_33 rfl (by decide) rfl (by omega) rfl ?_
          refine r_goto (d := mX6_isHad) (pc := 36) (tgt := 4) dX6_isHad_36 (by decide) ?_
          exact wpE (by simp [anyE, bI, *]) rfl (by rfl) (ih4 (by omega) (by omega))
  exact wpE (by simp [anyE, bI]) rfl (by rfl) (L4 0 (by omega))
set_option maxRecDepth 20000 in
set_option maxHeartbeats 4000000 in
theorem Fn_X6_marksOf (k : Nat) (I : mIt) (P : mPt) (hM : isMd P) (m : Nat) (hm : I 156 2 = m) (hm3 : m ≤ 3) (c : Int) : WP (k + 0) mX6_marksOf none (0, 0) (Rt (some (.inl (mkM (I 156) c m))) (lay0, I, P)) 0 [(0, .inr (some 155)), (1, .inl c)] [] (lay0, I, P) := by
  refine r_iconst (d := mX6_marksOf) (pc := 0) (n := 0) dX6_marksOf_0 ?_
  refine r_istore_n (d := mX6_marksOf) (pc := 1) (i := 2) (lv' := [(0, .inr (some 155)), (1, .inl c), (2, .inl 0)]) dX6_marksOf_1 rfl (by decide) rfl rfl ?_
  refine r_iconst (d := mX6_marksOf) (pc := 2) (n := 0) dX6_marksOf_2 ?_
  refine r_istore_n (d := mX6_marksOf) (pc := 3) (i := 3) (lv' := [(0, .inr (some 155)), (1, .inl c), (2, .inl 0), (3, .inl 0)]) dX6_marksOf_3 rfl (by decide) rfl rfl ?_
  have L4 : ∀ i : Nat, i ≤ m → WP (k + 0) mX6_marksOf none (0, 0) (Rt (some (.inl (mkM (I 156) c m))) (lay0, I, P)) 4 [(0, .inr (some 155)), (1, .inl c), (2, .inl (mkM (I 156) c i)), (3, .inl (i : Int))] [] (lay0, I, P) := by
    refine loopN (m) _ (fun i ih4 hj4 => ?_)
    refine r_iload_n (d := mX6_marksOf) (pc := 4) (i := 3) (v := (i : Int)) dX6_marksOf_4 rfl rfl ?_
    refine r_aload_n (d := mX6_marksOf) (pc := 5) (i := 0) (v := 155) dX6_marksOf_5 rfl rfl ?_
    refine r_getRs (d := mX6_marksOf) (pc := 6) (a := 155) (kd := 6) (j := 0) (x := 156) dX6_marksOf_6 flRX6_7 ly155 (by decide) (by decide) rfl hM.1 ?_
    refine r_iconst (d := mX6_marksOf) (pc := 9) (n := 2) dX6_marksOf_9 ?_
    refine r_ialds (d := mX6_marksOf) (pc := 10) (a := 156) (x := (I 156 2)) dX6_marksOf_10 ly156 (by decide) (by decide) (rfl) ?_
    refine r_icmp_ge (d := mX6_marksOf) (pc := 11) (tgt := 65) dX6_marksOf_11 (by decide) (fun h11 => ?_) (fun h11 => ?_)
    · refine r_iload_n (d := mX6_marksOf) (pc := 65) (i := 2) (v := mkM (I 156) c i) dX6_marksOf_65 rfl rfl ?_
      exact r_iret (d := mX6_marksOf) (pc := 66) dX6_marksOf_66 rfl (rtI (by rw [show i = m by omega]) (by rfl)) (by decide) (by decide)
    · refine r_iconst (d := mX6_marksOf) (pc := 14) (n := 0) dX6_marksOf_14 ?_
      refine r_istore (d := mX6_marksOf) (pc := 15) (i := 4) (lv' := [(0, .inr (some 155)), (1, .inl c), (2, .inl (mkM (I 156) c i)), (3, .inl (i : Int)), (4, .inl 0)]) dX6_marksOf_15 (by decide) rfl rfl ?_
      have L17 : ∀ j : Nat, j ≤ 8 → WP (k + 0) mX6_marksOf none (0, 0) (Rt (some (.inl (mkM (I 156) c m))) (lay0, I, P)) 17 [(0, .inr (some 155)), (1, .inl c), (2, .inl (mkI (I 156) c i (mkM (I 156) c i) j)), (3, .inl (i : Int)), (4, .inl (j : Int))] [] (lay0, I, P) := by
        refine loopN (8) _ (fun j ih17 hj17 => ?_)
        refine r_iload (d := mX6_marksOf) (pc := 17) (i := 4) (v := (j : Int)) dX6_marksOf_17 rfl ?_
        refine r_bipush (d := mX6_marksOf) (pc := 19) (n := 8) dX6_marksOf_19 ?_
        refine r_icmp_ge (d := mX6_marksOf) (pc := 21) (tgt := 59) dX6_marksOf_21 (by decide) (fun h21 => ?_) (fun h21 => ?_)
        · refine r_iinc (d := mX6_marksOf) (pc := 59) (i := 3) (v := (i : Int)) (y := ((i + 1 : Nat) : Int)) (lv' := [(0, .inr (some 155)), (1, .inl c), (2, .inl (mkI (I 156) c i (mkM (I 156) c i) j)), (3, .inl ((i + 1 : Nat) : Int)), (4, .inl (j : Int))]) dX6_marksOf_59 rfl (by decide) rfl (by omega) rfl ?_
          refine r_goto (d := mX6_marksOf) (pc := 62) (tgt := 4) dX6_marksOf_62 (by decide) ?_
          refine WP.pick (lv' := [(0, .inr (some 155)), (1, .inl c), (2, .inl (mkI (I 156) c i (mkM (I 156) c i) j)), (3, .inl ((i + 1 : Nat) : Int))]) [0, 1, 2, 3] rfl ?_
          exact wpE (by rw [mkM, show j = 8 by omega] <;> simp) rfl (by rfl) (ih4 (by omega) (by omega))
        · refine r_iload_n (d := mX6_marksOf) (pc := 24) (i := 2) (v := mkI (I 156) c i (mkM (I 156) c i) j) dX6_marksOf_24 rfl rfl ?_
          refine r_aload_n (d := mX6_marksOf) (pc := 25) (i := 0) (v := 155) dX6_marksOf_25 rfl rfl ?_
          refine r_getRs (d := mX6_marksOf) (pc := 26) (a := 155) (kd := 6) (j := 0) (x := 156) dX6_marksOf_26 flRX6_7 ly155 (by decide) (by decide) rfl hM.1 ?_
          refine r_bipush (d := mX6_marksOf) (pc := 29) (n := 63) dX6_marksOf_29 ?_
          refine r_bipush (d := mX6_marksOf) (pc := 31) (n := 16) dX6_marksOf_31 ?_
          refine r_iload_n (d := mX6_marksOf) (pc := 33) (i := 3) (v := (i : Int)) dX6_marksOf_33 rfl rfl ?_
          refine r_imul (d := mX6_marksOf) (pc := 34) dX6_marksOf_34 ?_
          refine r_iadd (d := mX6_marksOf) (pc := 35) dX6_marksOf_35 ?_
          refine r_iload (d := mX6_marksOf) (pc := 36) (i := 4) (v := (j : Int)) dX6_marksOf_36 rfl ?_
          refine r_iadd (d := mX6_marksOf) (pc := 38) dX6_marksOf_38 ?_
          refine r_ialds (d := mX6_marksOf) (pc := 39) (a := 156) (x := (I 156 ((63 + (16 * (i : Int))) + (j : Int)))) dX6_marksOf_39 ly156 (by omega) (by omega) (rfl) ?_
          refine r_iload_n (d := mX6_marksOf) (pc := 40) (i := 1) (v := c) dX6_marksOf_40 rfl rfl ?_
          refine r_icmp_ne (d := mX6_marksOf) (pc := 41) (tgt := 50) dX6_marksOf_41 (by decide) (fun h41 => ?_) (fun h41 => ?_)
          · refine r_iconst (d := mX6_marksOf) (pc := 50) (n := 0) dX6_marksOf_50 ?_
            refine r_ior (d := mX6_marksOf) (pc := 51) dX6_marksOf_51 ?_
            refine r_istore_n (d := mX6_marksOf) (pc := 52) (i := 2) (lv' := [(0, .inr (some 155)), (1, .inl c), (2, .inl (bOr (mkI (I 156) c i (mkM (I 156) c i) j) 0)), (3, .inl (i : Int)), (4, .inl (j : Int))]) dX6_marksOf_52 rfl (by decide) rfl rfl ?_
            refine r_iinc (d := mX6_marksOf) (pc := 53) (i := 4) (v := (j : Int)) (y := ((j + 1 : Nat) : Int)) (lv' := [(0, .inr (some 155)), (1, .inl c), (2, .inl (bOr (mkI (I 156) c i (mkM (I 156) c i) j) 0)), (3, .inl (i : Int)), (4, .inl ((j + 1 : Nat) : Int))]) dX6_marksOf_53 rfl (by decide) rfl (by omega) rfl ?_
            refine r_goto (d := mX6_marksOf) (pc := 56) (tgt := 17) dX6_marksOf_56 (by decide) ?_
            exact wpE (by simp [mkI, *]) rfl (by rfl) (ih17 (by omega) (by omega))
          · refine r_iconst (d := mX6_marksOf) (pc := 44) (n := 1) dX6_marksOf_44 ?_
            refine r_iload_n (d := mX6_marksOf) (pc := 45) (i := 3) (v := (i : Int)) dX6_marksOf_45 rfl rfl ?_
            refine r_ishl (d := mX6_marksOf) (pc := 46) dX6_marksOf_46 ?_
            refine r_goto (d := mX6_marksOf) (pc := 47) (tgt := 51) dX6_marksOf_47 (by decide) ?_
            refine r_ior (d := mX6_marksOf) (pc := 51) dX6_marksOf_51 ?_
            refine r_istore_n (d := mX6_marksOf) (pc := 52) (i := 2) (lv' := [(0, .inr (some 155)), (1, .inl c), (2, .inl (bOr (mkI (I 156) c i (mkM (I 156) c i) j) (bShl 1 (i : Int)))), (3, .inl (i : Int)), (4, .inl (j : Int))]) dX6_marksOf_52 rfl (by decide) rfl rfl ?_
            refine r_iinc (d := mX6_marksOf) (pc := 53) (i := 4) (v := (j : Int)) (y := ((j + 1 : Nat) : Int)) (lv' := [(0, .inr (some 155)), (1, .inl c), (2, .inl (bOr (mkI (I 156) c i (mkM (I 156) c i) j) (bShl 1 (i : Int)))), (3, .inl (i : Int)), (4, .inl ((j + 1 : Nat) : Int))]) dX6_marksOf_53 rfl (by decide) rfl (by omega) rfl ?_
            refine r_goto (d := mX6_marksOf) (pc := 56) (tgt := 17) dX6_marksOf_56 (by decide) ?_
            exact wpE (by simp [mkI, *]) rfl (by rfl) (ih17 (by omega) (by omega))
      exact wpE (by simp [mkI]) rfl (by rfl) (L17 0 (by omega))
  exact wpE (by simp [mkM]) rfl (by rfl) (L4 0 (by omega))
set_option maxRecDepth 20000 in
set_option maxHeartbeats 4000000 in
theorem Fn_X6_readers (k : Nat) (I : mIt) (P : mPt) (hM : isMd P) (n : Nat) (hn : I 156 3 = n) (hn6 : n ≤ 6) (c : Int) : WP (k + 1) mX6_readers none (0, 0) (Rt (some (.inl (rdM (I 156) c n))) (lay0, I, P)) 0 [(0, .inr (some 155)), (1, .inl c)] [] (lay0, I, P) := by
  refine r_iconst (d := mX6_readers) (pc := 0) (n := 0) dX6_readers_0 ?_
  refine r_istore_n (d := mX6_readers) (pc := 1) (i := 2) (lv' := [(0, .inr (some 155)), (1, .inl c), (2, .inl 0)]) dX6_readers_1 rfl (by decide) rfl rfl ?_
  refine r_iconst (d := mX6_readers) (pc := 2) (n := 0) dX6_readers_2 ?_
  refine r_istore_n (d := mX6_readers) (pc := 3) (i := 3) (lv' := [(0, .inr (some 155)), (1, .inl c), (2, .inl 0), (3, .inl 0)]) dX6_readers_3 rfl (by decide) rfl rfl ?_
  have L4 : ∀ j : Nat, j ≤ n → WP (k + 1) mX6_readers none (0, 0) (Rt (some (.inl (rdM (I 156) c n))) (lay0, I, P)) 4 [(0, .inr (some 155)), (1, .inl c), (2, .inl (rdM (I 156) c j)), (3, .inl (j : Int))] [] (lay0, I, P) := by
    refine loopN (n) _ (fun j ih4 hj4 => ?_)
    have hr4 : 0 ≤ rdM (I 156) c j ∧ rdM (I 156) c j ≤ j := rdrs_le _ _ c j
    refine r_iload_n (d := mX6_readers) (pc := 4) (i := 3) (v := (j : Int)) dX6_readers_4 rfl rfl ?_
    refine r_aload_n (d := mX6_readers) (pc := 5) (i := 0) (v := 155) dX6_readers_5 rfl rfl ?_
    refine r_getRs (d := mX6_readers) (pc := 6) (a := 155) (kd := 6) (j := 0) (x := 156) dX6_readers_6 flRX6_7 ly155 (by decide) (by decide) rfl hM.1 ?_
    refine r_iconst (d := mX6_readers) (pc := 9) (n := 3) dX6_readers_9 ?_
    refine r_ialds (d := mX6_readers) (pc := 10) (a := 156) (x := (I 156 3)) dX6_readers_10 ly156 (by decide) (by decide) (rfl) ?_
    refine r_icmp_ge (d := mX6_readers) (pc := 11) (tgt := 56) dX6_readers_11 (by decide) (fun h11 => ?_) (fun h11 => ?_)
    · refine r_iload_n (d := mX6_readers) (pc := 56) (i := 2) (v := rdM (I 156) c j) dX6_readers_56 rfl rfl ?_
      exact r_iret (d := mX6_readers) (pc := 57) dX6_readers_57 rfl (rtI (by rw [show j = n by omega]) (by rfl)) (by decide) (by decide)
    · refine r_iload_n (d := mX6_readers) (pc := 14) (i := 2) (v := rdM (I 156) c j) dX6_readers_14 rfl rfl ?_
      refine r_aload_n (d := mX6_readers) (pc := 15) (i := 0) (v := 155) dX6_readers_15 rfl rfl ?_
      refine r_getRs (d := mX6_readers) (pc := 16) (a := 155) (kd := 6) (j := 0) (x := 156) dX6_readers_16 flRX6_7 ly155 (by decide) (by decide) rfl hM.1 ?_
      refine r_iload_n (d := mX6_readers) (pc := 19) (i := 3) (v := (j : Int)) dX6_readers_19 rfl rfl ?_
      refine r_iconst (d := mX6_readers) (pc := 20) (n := 2) dX6_readers_20 ?_
      refine r_cS2 (d := mX6_readers) (pc := 21) (dj := mX6_ofOrder) dX6_readers_21 mlRX6_47 staX6_ofOrder okX6_ofOrder (by decide) rfl (Nat.le_of_ble_eq_true rfl) (by decide) (by decide) (Fn_X6_ofOrder k I P (j : Int) 2 (by omega) (by omega) (by omega) (by omega)) ?_
      refine r_ialds (d := mX6_readers) (pc := 24) (a := 156) (x := (I 156 (111 + 7 * (j : Int) + 2))) dX6_readers_24 ly156 (by omega) (by omega) (rfl) ?_
      refine r_iload_n (d := mX6_readers) (pc := 25) (i := 1) (v := c) dX6_readers_25 rfl rfl ?_
      refine r_icmp_eq (d := mX6_readers) (pc := 26) (tgt := 43) dX6_readers_26 (by decide) (fun h26 => ?_) (fun h26 => ?_)
      · refine r_iconst (d := mX6_readers) (pc := 43) (n := 1) dX6_readers_43 ?_
        refine r_goto (d := mX6_readers) (pc := 44) (tgt := 48) dX6_readers_44 (by decide) ?_
        refine r_iadd (d := mX6_readers) (pc := 48) dX6_readers_48 ?_
        refine r_istore_n (d := mX6_readers) (pc := 49) (i := 2) (lv' := [(0, .inr (some 155)), (1, .inl c), (2, .inl (rdM (I 156) c j + 1)), (3, .inl (j : Int))]) dX6_readers_49 rfl (by decide) rfl rfl ?_
        refine r_iinc (d := mX6_readers) (pc := 50) (i := 3) (v := (j : Int)) (y := ((j + 1 : Nat) : Int)) (lv' := [(0, .inr (some 155)), (1, .inl c), (2, .inl (rdM (I 156) c j + 1)), (3, .inl ((j + 1 : Nat) : Int))]) dX6_readers_50 rfl (by decide) rfl (by omega) rfl ?_
        refine r_goto (d := mX6_readers) (pc := 53) (tgt := 4) dX6_readers_53 (by decide) ?_
        exact wpE (by simp [rdM, rdrs, *]) rfl (by rfl) (ih4 (by omega) (by omega))
      · refine r_aload_n (d := mX6_readers) (pc := 29) (i := 0) (v := 155) dX6_readers_29 rfl rfl ?_
        refine r_getRs (d := mX6_readers) (pc := 30) (a := 155) (kd := 6) (j := 0) (x := 156) dX6_readers_30 flRX6_7 ly155 (by decide) (by decide) rfl hM.1 ?_
        refine r_iload_n (d := mX6_readers) (pc := 33) (i := 3) (v := (j : Int)) dX6_readers_33 rfl rfl ?_
        refine r_iconst (d := mX6_readers) (pc := 34) (n := 3) dX6_readers_34 ?_
        refine r_cS2 (d := mX6_readers) (pc := 35) (dj := mX6_ofOrder) dX6_readers_35 mlRX6_47 staX6_ofOrder okX6_ofOrder (by decide) rfl (Nat.le_of_ble_eq_true rfl) (by decide) (by decide) (Fn_X6_ofOrder k I P (j : Int) 3 (by omega) (by omega) (by omega) (by omega)) ?_
        refine r_ialds (d := mX6_readers) (pc := 38) (a := 156) (x := (I 156 (111 + 7 * (j : Int) + 3))) dX6_readers_38 ly156 (by omega) (by omega) (rfl) ?_
        refine r_iload_n (d := mX6_readers) (pc := 39) (i := 1) (v := c) dX6_readers_39 rfl rfl ?_
        refine r_icmp_ne (d := mX6_readers) (pc := 40) (tgt := 47) dX6_readers_40 (by decide) (fun h40 => ?_) (fun h40 => ?_)
        · refine r_iconst (d := mX6_readers) (pc := 47) (n := 0) dX6_readers_47 ?_
          refine r_iadd (d := mX6_readers) (pc := 48) dX6_readers_48 ?_
          refine r_istore_n (d := mX6_readers) (pc := 49) (i := 2) (lv' := [(0, .inr (some 155)), (1, .inl c), (2, .inl (rdM (I 156) c j + 0)), (3, .inl (j : Int))]) dX6_readers_49 rfl (by decide) rfl rfl ?_
          refine r_iinc (d := mX6_readers) (pc := 50) (i := 3) (v := (j : Int)) (y := ((j + 1 : Nat) : Int)) (lv' := [(0, .inr (some 155)), (1, .inl c), (2, .inl (rdM (I 156) c j + 0)), (3, .inl ((j + 1 : Nat) : Int))]) dX6_readers_50 rfl (by decide) rfl (by omega) rfl ?_
          refine r_goto (d := mX6_readers) (pc := 53) (tgt := 4) dX6_readers_53 (by decide) ?_
          exact wpE (by simp [rdM, rdrs, *]) rfl (by rfl) (ih4 (by omega) (by omega))
        · refine r_iconst (d := mX6_readers) (pc := 43) (n := 1) dX6_readers_43 ?_
          refine r_goto (d := mX6_readers) (pc := 44) (tgt := 48) dX6_readers_44 (by decide) ?_
          refine r_iadd (d := mX6_readers) (pc := 48) dX6_readers_48 ?_
          refine r_istore_n (d := mX6_readers) (pc := 49) (i := 2) (lv' := [(0, .inr (some 155)), (1, .inl c), (2, .inl (rdM (I 156) c j + 1)), (3, .inl (j : Int))]) dX6_readers_49 rfl (by decide) rfl rfl ?_
          refine r_iinc (d := mX6_readers) (pc := 50) (i := 3) (v := (j : Int)) (y := ((j + 1 : Nat) : Int)) (lv' := [(0, .inr (some 155)), (1, .inl c), (2, .inl (rdM (I 156) c j + 1)), (3, .inl ((j + 1 : Nat) : Int))]) dX6_readers_50 rfl (by decide) rfl (by omega) rfl ?_
          refine r_goto (d := mX6_readers) (pc := 53) (tgt := 4) dX6_readers_53 (by decide) ?_
          exact wpE (by simp [rdM, rdrs, *]) rfl (by rfl) (ih4 (by omega) (by omega))
  exact wpE (by simp [rdM, rdrs]) rfl (by rfl) (L4 0 (by omega))
set_option maxRecDepth 20000 in
set_option maxHeartbeats 4000000 in
theorem Fn_X6_isOfOrder (k : Nat) (I : mIt) (P : mPt) (hM : isMd P) (n : Nat) (hn : I 156 3 = n) (hn6 : n ≤ 6) (c : Int) : WP (k + 1) mX6_isOfOrder none (0, 0) (Rt (some (.inl (bI (ofM (I 156) c n = true)))) (lay0, I, P)) 0 [(0, .inr (some 155)), (1, .inl c)] [] (lay0, I, P) := by
  refine r_iconst (d := mX6_isOfOrder) (pc := 0) (n := 0) dX6_isOfOrder_0 ?_
  refine r_istore_n (d := mX6_isOfOrder) (pc := 1) (i := 2) (lv' := [(0, .inr (some 155)), (1, .inl c), (2, .inl 0)]) dX6_isOfOrder_1 rfl (by decide) rfl rfl ?_
  refine r_iconst (d := mX6_isOfOrder) (pc := 2) (n := 0) dX6_isOfOrder_2 ?_
  refine r_istore_n (d := mX6_isOfOrder) (pc := 3) (i := 3) (lv' := [(0, .inr (some 155)), (1, .inl c), (2, .inl 0), (3, .inl 0)]) dX6_isOfOrder_3 rfl (by decide) rfl rfl ?_
  have L4 : ∀ j : Nat, j ≤ n → WP (k + 1) mX6_isOfOrder none (0, 0) (Rt (some (.inl (bI (ofM (I 156) c n = true)))) (lay0, I, P)) 4 [(0, .inr (some 155)), (1, .inl c), (2, .inl (bI (ofM (I 156) c j = true))), (3, .inl (j : Int))] [] (lay0, I, P) := by
    refine loopN (n) _ (fun j ih4 hj4 => ?_)
    refine r_iload_n (d := mX6_isOfOrder) (pc := 4) (i := 3) (v := (j : Int)) dX6_isOfOrder_4 rfl rfl ?_
    refine r_aload_n (d := mX6_isOfOrder) (pc := 5) (i := 0) (v := 155) dX6_isOfOrder_5 rfl rfl ?_
    refine r_getRs (d := mX6_isOfOrder) (pc := 6) (a := 155) (kd := 6) (j := 0) (x := 156) dX6_isOfOrder_6 flRX6_7 ly155 (by decide) (by decide) rfl hM.1 ?_
    refine r_iconst (d := mX6_isOfOrder) (pc := 9) (n := 3) dX6_isOfOrder_9 ?_
    refine r_ialds (d := mX6_isOfOrder) (pc := 10) (a := 156) (x := (I 156 3)) dX6_isOfOrder_10 ly156 (by decide) (by decide) (rfl) ?_
    refine r_icmp_ge (d := mX6_isOfOrder) (pc := 11) (tgt := 44) dX6_isOfOrder_11 (by decide) (fun h11 => ?_) (fun h11 => ?_)
    · refine r_iload_n (d := mX6_isOfOrder) (pc := 44) (i := 2) (v := bI (ofM (I 156) c j = true)) dX6_isOfOrder_44 rfl rfl ?_
      exact r_zret (d := mX6_isOfOrder) (pc := 45) dX6_isOfOrder_45 rfl (bI_01 _) (rtI (by rw [show j = n by omega]) (by rfl)) (by decide) (by decide)
    · refine r_iload_n (d := mX6_isOfOrder) (pc := 14) (i := 2) (v := bI (ofM (I 156) c j = true)) dX6_isOfOrder_14 rfl rfl ?_
      refine r_ifb_ne (d := mX6_isOfOrder) (pc := 15) (tgt := 32) dX6_isOfOrder_15 (by decide) (fun h15 => ?_) (fun h15 => ?_)
      · refine r_iconst (d := mX6_isOfOrder) (pc := 32) (n := 1) dX6_isOfOrder_32 ?_
        refine r_goto (d := mX6_isOfOrder) (pc := 33) (tgt := 37) dX6_isOfOrder_33 (by decide) ?_
        refine r_istore_n (d := mX6_isOfOrder) (pc := 37) (i := 2) (lv' := [(0, .inr (some 155)), (1, .inl c), (2, .inl 1), (3, .inl (j : Int))]) dX6_isOfOrder_37 rfl (by decide) rfl rfl ?_
        refine r_iinc (d := mX6_isOfOrder) (pc := 38) (i := 3) (v := (j : Int)) (y := ((j + 1 : Nat) : Int)) (lv' := [(0, .inr (some 155)), (1, .inl c), (2, .inl 1), (3, .inl ((j + 1 : Nat) : Int))]) dX6_isOfOrder_38 rfl (by decide) rfl (by omega) rfl ?_
        refine r_goto (d := mX6_isOfOrder) (pc := 41) (tgt := 4) dX6_isOfOrder_41 (by decide) ?_
        exact wpE (by simp [ofM_s, bI, *]) rfl (by rfl) (ih4 (by omega) (by omega))
      · refine r_aload_n (d := mX6_isOfOrder) (pc := 18) (i := 0) (v := 155) dX6_isOfOrder_18 rfl rfl ?_
        refine r_getRs (d := mX6_isOfOrder) (pc := 19) (a := 155) (kd := 6) (j := 0) (x := 156) dX6_isOfOrder_19 flRX6_7 ly155 (by decide) (by decide) rfl hM.1 ?_
        refine r_iload_n (d := mX6_isOfOrder) (pc := 22) (i := 3) (v := (j : Int)) dX6_isOfOrder_22 rfl rfl ?_
        refine r_iconst (d := mX6_isOfOrder) (pc := 23) (n := 1) dX6_isOfOrder_23 ?_
        refine r_cS2 (d := mX6_isOfOrder) (pc := 24) (dj := mX6_ofOrder) dX6_isOfOrder_24 mlRX6_47 staX6_ofOrder okX6_ofOrder (by decide) rfl (Nat.le_of_ble_eq_true rfl) (by decide) (by decide) (Fn_X6_ofOrder k I P (j : Int) 1 (by omega) (by omega) (by omega) (by omega)) ?_
        refine r_ialds (d := mX6_isOfOrder) (pc := 27) (a := 156) (x := (I 156 (111 + 7 * (j : Int) + 1))) dX6_isOfOrder_27 ly156 (by omega) (by omega) (rfl) ?_
        refine r_iload_n (d := mX6_isOfOrder) (pc := 28) (i := 1) (v := c) dX6_isOfOrder_28 rfl rfl ?_
        refine r_icmp_ne (d := mX6_isOfOrder) (pc := 29) (tgt := 36) dX6_isOfOrder_29 (by decide) (fun h29 => ?_) (fun h29 => ?_)
        · refine r_iconst (d := mX6_isOfOrder) (pc := 36) (n := 0) dX6_isOfOrder_36 ?_
          refine r_istore_n (d := mX6_isOfOrder) (pc := 37) (i := 2) (lv' := [(0, .inr (some 155)), (1, .inl c), (2, .inl 0), (3, .inl (j : Int))]) dX6_isOfOrder_37 rfl (by decide) rfl rfl ?_
          refine r_iinc (d := mX6_isOfOrder) (pc := 38) (i := 3) (v := (j : Int)) (y := ((j + 1 : Nat) : Int)) (lv' := [(0, .inr (some 155)), (1, .inl c), (2, .inl 0), (3, .inl ((j + 1 : Nat) : Int))]) dX6_isOfOrder_38 rfl (by decide) rfl (by omega) rfl ?_
          refine r_goto (d := mX6_isOfOrder) (pc := 41) (tgt := 4) dX6_isOfOrder_41 (by decide) ?_
          exact wpE (by simp [ofM_s, bI, *]) rfl (by rfl) (ih4 (by omega) (by omega))
        · refine r_iconst (d := mX6_isOfOrder) (pc := 32) (n := 1) dX6_isOfOrder_32 ?_
          refine r_goto (d := mX6_isOfOrder) (pc := 33) (tgt := 37) dX6_isOfOrder_33 (by decide) ?_
          refine r_istore_n (d := mX6_isOfOrder) (pc := 37) (i := 2) (lv' := [(0, .inr (some 155)), (1, .inl c), (2, .inl 1), (3, .inl (j : Int))]) dX6_isOfOrder_37 rfl (by decide) rfl rfl ?_
          refine r_iinc (d := mX6_isOfOrder) (pc := 38) (i := 3) (v := (j : Int)) (y := ((j + 1 : Nat) : Int)) (lv' := [(0, .inr (some 155)), (1, .inl c), (2, .inl 1), (3, .inl ((j + 1 : Nat) : Int))]) dX6_isOfOrder_38 rfl (by decide) rfl (by omega) rfl ?_
          refine r_goto (d := mX6_isOfOrder) (pc := 41) (tgt := 4) dX6_isOfOrder_41 (by decide) ?_
          exact wpE (by simp [ofM_s, bI, *]) rfl (by rfl) (ih4 (by omega) (by omega))
  exact wpE (by simp [ofM, anyE, bI]) rfl (by rfl) (L4 0 (by omega))
set_option maxRecDepth 20000 in
set_option maxHeartbeats 4000000 in
theorem Fn_X6_frees (k : Nat) (I : mIt) (P : mPt) (hM : isMd P) (n : Nat) (hn : I 156 3 = n) (hn6 : n ≤ 6) (m : Nat) (hm : I 156 2 = m) (hm3 : m ≤ 3) (nc : Nat) (hc : I 156 0 = nc) (hc7 : nc ≤ 7) : WP (k + 2) mX6_frees none (0, 0) (Rt none (lay0, arS I 156 (frM (I 156) n m nc), P)) 0 [(0, .inr (some 155))] [] (lay0, I, P) := by
  refine r_iconst (d := mX6_frees) (pc := 0) (n := 0) dX6_frees_0 ?_
  refine r_istore_n (d := mX6_frees) (pc := 1) (i := 1) (lv' := [(0, .inr (some 155)), (1, .inl 0)]) dX6_frees_1 rfl (by decide) rfl rfl ?_
  have L2 : ∀ j : Nat, j ≤ nc → WP (k + 2) mX6_frees none (0, 0) (Rt none (lay0, arS I 156 (frM (I 156) n m nc), P)) 2 [(0, .inr (some 155)), (1, .inl (j : Int))] [] (lay0, arS I 156 (frM (I 156) n m j), P) := by
    refine loopN (nc) _ (fun j ih2 hj2 => ?_)
    refine r_iload_n (d := mX6_frees) (pc := 2) (i := 1) (v := (j : Int)) dX6_frees_2 rfl rfl ?_
    refine r_aload_n (d := mX6_frees) (pc := 3) (i := 0) (v := 155) dX6_frees_3 rfl rfl ?_
    refine r_getRs (d := mX6_frees) (pc := 4) (a := 155) (kd := 6) (j := 0) (x := 156) dX6_frees_4 flRX6_7 ly155 (by decide) (by decide) rfl hM.1 ?_
    refine r_iconst (d := mX6_frees) (pc := 7) (n := 0) dX6_frees_7 ?_
    refine r_ialds (d := mX6_frees) (pc := 8) (a := 156) (x := (nc : Int)) dX6_frees_8 ly156 (by decide) (by decide) (by show frM (I 156) n m j 0 = _; rw [frM_lo _ _ _ _ (by decide)]; exact hc) ?_
    refine r_icmp_ge (d := mX6_frees) (pc := 9) (tgt := 84) dX6_frees_9 (by decide) (fun h9 => ?_) (fun h9 => ?_)
    · exact r_ret (d := mX6_frees) (pc := 84) dX6_frees_84 rfl (rtV (by rw [show j = nc by omega])) (by decide) (by decide)
    · have T50 : WP (k + 2) mX6_frees none (0, 0) (Rt none (lay0, arS I 156 (frM (I 156) n m nc), P)) 50 [(0, .inr (some 155)), (1, .inl (j : Int)), (2, .inl (bI (ndM (I 156) n m (j : Int) = true)))] [] (lay0, arS I 156 (frM (I 156) n m j), P) := by
        refine r_aload_n (d := mX6_frees) (pc := 50) (i := 0) (v := 155) dX6_frees_50 rfl rfl ?_
        refine r_getRs (d := mX6_frees) (pc := 51) (a := 155) (kd := 6) (j := 0) (x := 156) dX6_frees_51 flRX6_7 ly155 (by decide) (by decide) rfl hM.1 ?_
        refine r_iload_n (d := mX6_frees) (pc := 54) (i := 1) (v := (j : Int)) dX6_frees_54 rfl rfl ?_
        refine r_iconst (d := mX6_frees) (pc := 55) (n := 0) dX6_frees_55 ?_
        refine r_cS2 (d := mX6_frees) (pc := 56) (dj := mX6_at) dX6_frees_56 mlRX6_65 staX6_at okX6_at (by decide) rfl (Nat.le_of_ble_eq_true rfl) (by decide) (by decide) (Fn_X6_at (k + 1) (arS I 156 (frM (I 156) n m j)) P (j : Int) 0 (by omega) (by omega) (by omega) (by omega)) ?_
        refine r_iload_n (d := mX6_frees) (pc := 59) (i := 2) (v := bI (ndM (I 156) n m (j : Int) = true)) dX6_frees_59 rfl rfl ?_
        refine r_ifb_eq (d := mX6_frees) (pc := 60) (tgt := 76) dX6_frees_60 (by decide) (fun h60 => ?_) (fun h60 => ?_)
        · refine r_iconst (d := mX6_frees) (pc := 76) (n := 0) dX6_frees_76 ?_
          refine r_iasts (d := mX6_frees) (pc := 77) (a := 156) (lay0, mUp (arS I 156 (frM (I 156) n m j)) 156 (28 + 5 * (j : Int) + 0) 0, P) dX6_frees_77 ly156 (by omega) (by omega) rfl ?_
          refine r_iinc (d := mX6_frees) (pc := 78) (i := 1) (v := (j : Int)) (y := ((j + 1 : Nat) : Int)) (lv' := [(0, .inr (some 155)), (1, .inl ((j + 1 : Nat) : Int)), (2, .inl (bI (ndM (I 156) n m (j : Int) = true)))]) dX6_frees_78 rfl (by decide) rfl (by omega) rfl ?_
          refine r_goto (d := mX6_frees) (pc := 81) (tgt := 2) dX6_frees_81 (by decide) ?_
          refine WP.pick (lv' := [(0, .inr (some 155)), (1, .inl ((j + 1 : Nat) : Int))]) [0, 1] rfl ?_
          exact wpE (by simp) rfl (by refine memE ?_; rw [arS_up, frM]; first | rw [if_pos h60] | rw [if_neg h60]) (ih2 (by omega) (by omega))
        · refine r_aload_n (d := mX6_frees) (pc := 63) (i := 0) (v := 155) dX6_frees_63 rfl rfl ?_
          refine r_getRs (d := mX6_frees) (pc := 64) (a := 155) (kd := 6) (j := 0) (x := 156) dX6_frees_64 flRX6_7 ly155 (by decide) (by decide) rfl hM.1 ?_
          refine r_iload_n (d := mX6_frees) (pc := 67) (i := 1) (v := (j : Int)) dX6_frees_67 rfl rfl ?_
          refine r_iconst (d := mX6_frees) (pc := 68) (n := 0) dX6_frees_68 ?_
          refine r_cS2 (d := mX6_frees) (pc := 69) (dj := mX6_at) dX6_frees_69 mlRX6_65 staX6_at okX6_at (by decide) rfl (Nat.le_of_ble_eq_true rfl) (by decide) (by decide) (Fn_X6_at (k + 1) (arS I 156 (frM (I 156) n m j)) P (j : Int) 0 (by omega) (by omega) (by omega) (by omega)) ?_
          refine r_ialds (d := mX6_frees) (pc := 72) (a := 156) (x := (I 156 (28 + 5 * (j : Int) + 0))) dX6_frees_72 ly156 (by omega) (by omega) (by show frM (I 156) n m j _ = _; rw [frM_ne _ _ _ _ _ (fun k hk => by omega)]) ?_
          refine r_goto (d := mX6_frees) (pc := 73) (tgt := 77) dX6_frees_73 (by decide) ?_
          refine r_iasts (d := mX6_frees) (pc := 77) (a := 156) (lay0, mUp (arS I 156 (frM (I 156) n m j)) 156 (28 + 5 * (j : Int) + 0) (I 156 (28 + 5 * (j : Int) + 0)), P) dX6_frees_77 ly156 (by omega) (by omega) rfl ?_
          refine r_iinc (d := mX6_frees) (pc := 78) (i := 1) (v := (j : Int)) (y := ((j + 1 : Nat) : Int)) (lv' := [(0, .inr (some 155)), (1, .inl ((j + 1 : Nat) : Int)), (2, .inl (bI (ndM (I 156) n m (j : Int) = true)))]) dX6_frees_78 rfl (by decide) rfl (by omega) rfl ?_
          refine r_goto (d := mX6_frees) (pc := 81) (tgt := 2) dX6_frees_81 (by decide) ?_
          refine WP.pick (lv' := [(0, .inr (some 155)), (1, .inl ((j + 1 : Nat) : Int))]) [0, 1] rfl ?_
          exact wpE (by simp) rfl (by refine memE ?_; rw [arS_up, frM]; first | rw [if_pos h60] | rw [if_neg h60]) (ih2 (by omega) (by omega))
      refine r_aload_n (d := mX6_frees) (pc := 12) (i := 0) (v := 155) dX6_frees_12 rfl rfl ?_
      refine r_iload_n (d := mX6_frees) (pc := 13) (i := 1) (v := (j : Int)) dX6_frees_13 rfl rfl ?_
      refine r_cV1 (d := mX6_frees) (pc := 14) (dj := mX6_isHad) (a := 155) (kd := 6) dX6_frees_14 mlRX6_51 inX6_isHad selX6_isHad rfl ly155 (by decide) okX6_isHad (by decide) rfl (Nat.le_of_ble_eq_true rfl) (by decide) (by decide) (Fn_X6_isHad (k + 1) (arS I 156 (frM (I 156) n m j)) P hM  (j : Int)) ?_
      refine wpE (lv' := [(0, .inr (some 155)), (1, .inl (j : Int))]) (st' := [.inl (bI (hadM (I 156) (j : Int) = true))]) (M' := (lay0, arS I 156 (frM (I 156) n m j), P)) rfl (by rw [arS_at]; unfold hadM; rw [anyE_congr (f := fun n_1 => frM (I 156) n m j (12 + n_1)) (g := fun n => I 156 (12 + n)) _ 8 (fun i hi => frM_lo _ _ _ _ (by omega))]; rfl) rfl ?_
      refine r_ifb_ne (d := mX6_frees) (pc := 17) (tgt := 44) dX6_frees_17 (by decide) (fun h17 => ?_) (fun h17 => ?_)
      · refine r_iconst (d := mX6_frees) (pc := 44) (n := 1) dX6_frees_44 ?_
        refine r_goto (d := mX6_frees) (pc := 45) (tgt := 49) dX6_frees_45 (by decide) ?_
        refine r_istore_n (d := mX6_frees) (pc := 49) (i := 2) (lv' := [(0, .inr (some 155)), (1, .inl (j : Int)), (2, .inl 1)]) dX6_frees_49 rfl (by decide) rfl rfl ?_
        exact wpE (by first | (rw [bI_t (by simp [ndM, *])]; done) | (rw [bI_f (by simp only [ndM, Bool.or_eq_true, decide_eq_true_eq]; exact fun q => q.elim (fun q => q.elim (fun q => q.elim h17 h25) h33) h41)]; done)) (by rfl) (by rfl) T50
      · refine r_aload_n (d := mX6_frees) (pc := 20) (i := 0) (v := 155) dX6_frees_20 rfl rfl ?_
        refine r_iload_n (d := mX6_frees) (pc := 21) (i := 1) (v := (j : Int)) dX6_frees_21 rfl rfl ?_
        refine r_cV1 (d := mX6_frees) (pc := 22) (dj := mX6_marksOf) (a := 155) (kd := 6) dX6_frees_22 mlRX6_55 inX6_marksOf selX6_marksOf rfl ly155 (by decide) okX6_marksOf (by decide) rfl (Nat.le_of_ble_eq_true rfl) (by decide) (by decide) (Fn_X6_marksOf (k + 1) (arS I 156 (frM (I 156) n m j)) P hM m (by rw [arS_at, frM_lo _ _ _ _ (by decide)]; exact hm) hm3 (j : Int)) ?_
        refine wpE (lv' := [(0, .inr (some 155)), (1, .inl (j : Int))]) (st' := [.inl (mkM (I 156) (j : Int) m)]) (M' := (lay0, arS I 156 (frM (I 156) n m j), P)) rfl (by rw [arS_at, mkM_congr (t := I 156) _ _ (fun i h9 => frM_hi _ _ _ _ (by omega) h9)]; rfl) rfl ?_
        refine r_if_gt (d := mX6_frees) (pc := 25) (tgt := 44) dX6_frees_25 (by decide) (fun h25 => ?_) (fun h25 => ?_)
        · refine r_iconst (d := mX6_frees) (pc := 44) (n := 1) dX6_frees_44 ?_
          refine r_goto (d := mX6_frees) (pc := 45) (tgt := 49) dX6_frees_45 (by decide) ?_
          refine r_istore_n (d := mX6_frees) (pc := 49) (i := 2) (lv' := [(0, .inr (some 155)), (1, .inl (j : Int)), (2, .inl 1)]) dX6_frees_49 rfl (by decide) rfl rfl ?_
          exact wpE (by first | (rw [bI_t (by simp [ndM, *])]; done) | (rw [bI_f (by simp only [ndM, Bool.or_eq_true, decide_eq_true_eq]; exact fun q => q.elim (fun q => q.elim (fun q => q.elim h17 h25) h33) h41)]; done)) (by rfl) (by rfl) T50
        · refine r_aload_n (d := mX6_frees) (pc := 28) (i := 0) (v := 155) dX6_frees_28 rfl rfl ?_
          refine r_iload_n (d := mX6_frees) (pc := 29) (i := 1) (v := (j : Int)) dX6_frees_29 rfl rfl ?_
          refine r_cV1 (d := mX6_frees) (pc := 30) (dj := mX6_readers) (a := 155) (kd := 6) dX6_frees_30 mlRX6_59 inX6_readers selX6_readers rfl ly155 (by decide) okX6_readers (by decide) rfl (Nat.le_of_ble_eq_true rfl) (by decide) (by decide) (Fn_X6_readers k (arS I 156 (frM (I 156) n m j)) P hM n (by rw [arS_at, frM_lo _ _ _ _ (by decide)]; exact hn) hn6 (j : Int)) ?_
          refine wpE (lv' := [(0, .inr (some 155)), (1, .inl (j : Int))]) (st' := [.inl (rdM (I 156) (j : Int) n)]) (M' := (lay0, arS I 156 (frM (I 156) n m j), P)) rfl (by rw [arS_at]; unfold rdM; rw [rdrs_congr (f2 := fun k => I 156 (111 + 7 * k + 2)) (g2 := fun k => I 156 (111 + 7 * k + 3)) _ _ (fun i hi => ⟨frM_hi _ _ _ _ (by omega) (by omega), frM_hi _ _ _ _ (by omega) (by omega)⟩)]; rfl) rfl ?_
          refine r_if_gt (d := mX6_frees) (pc := 33) (tgt := 44) dX6_frees_33 (by decide) (fun h33 => ?_) (fun h33 => ?_)
          · refine r_iconst (d := mX6_frees) (pc := 44) (n := 1) dX6_frees_44 ?_
            refine r_goto (d := mX6_frees) (pc := 45) (tgt := 49) dX6_frees_45 (by decide) ?_
            refine r_istore_n (d := mX6_frees) (pc := 49) (i := 2) (lv' := [(0, .inr (some 155)), (1, .inl (j : Int)), (2, .inl 1)]) dX6_frees_49 rfl (by decide) rfl rfl ?_
            exact wpE (by first | (rw [bI_t (by simp [ndM, *])]; done) | (rw [bI_f (by simp only [ndM, Bool.or_eq_true, decide_eq_true_eq]; exact fun q => q.elim (fun q => q.elim (fun q => q.elim h17 h25) h33) h41)]; done)) (by rfl) (by rfl) T50
          · refine r_aload_n (d := mX6_frees) (pc := 36) (i := 0) (v := 155) dX6_frees_36 rfl rfl ?_
            refine r_iload_n (d := mX6_frees) (pc := 37) (i := 1) (v := (j : Int)) dX6_frees_37 rfl rfl ?_
            refine r_cV1 (d := mX6_frees) (pc := 38) (dj := mX6_isOfOrder) (a := 155) (kd := 6) dX6_frees_38 mlRX6_62 inX6_isOfOrder selX6_isOfOrder rfl ly155 (by decide) okX6_isOfOrder (by decide) rfl (Nat.le_of_ble_eq_true rfl) (by decide) (by decide) (Fn_X6_isOfOrder k (arS I 156 (frM (I 156) n m j)) P hM n (by rw [arS_at, frM_lo _ _ _ _ (by decide)]; exact hn) hn6 (j : Int)) ?_
            refine wpE (lv' := [(0, .inr (some 155)), (1, .inl (j : Int))]) (st' := [.inl (bI (ofM (I 156) (j : Int) n = true))]) (M' := (lay0, arS I 156 (frM (I 156) n m j), P)) rfl (by rw [arS_at]; unfold ofM; rw [anyE_congr (f := fun k => frM (I 156) n m j (111 + 7 * k + 1)) (g := fun k => I 156 (111 + 7 * k + 1)) _ _ (fun i hi => frM_hi _ _ _ _ (by omega) (by omega))]; rfl) rfl ?_
            refine r_ifb_eq (d := mX6_frees) (pc := 41) (tgt := 48) dX6_frees_41 (by decide) (fun h41 => ?_) (fun h41 => ?_)
            · refine r_iconst (d := mX6_frees) (pc := 48) (n := 0) dX6_frees_48 ?_
              refine r_istore_n (d := mX6_frees) (pc := 49) (i := 2) (lv' := [(0, .inr (some 155)), (1, .inl (j : Int)), (2, .inl 0)]) dX6_frees_49 rfl (by decide) rfl rfl ?_
              exact wpE (by first | (rw [bI_t (by simp [ndM, *])]; done) | (rw [bI_f (by simp only [ndM, Bool.or_eq_true, decide_eq_true_eq]; exact fun q => q.elim (fun q => q.elim (fun q => q.elim h17 h25) h33) h41)]; done)) (by rfl) (by rfl) T50
            · refine r_iconst (d := mX6_frees) (pc := 44) (n := 1) dX6_frees_44 ?_
              refine r_goto (d := mX6_frees) (pc := 45) (tgt := 49) dX6_frees_45 (by decide) ?_
              refine r_istore_n (d := mX6_frees) (pc := 49) (i := 2) (lv' := [(0, .inr (some 155)), (1, .inl (j : Int)), (2, .inl 1)]) dX6_frees_49 rfl (by decide) rfl rfl ?_
              exact wpE (by first | (rw [bI_t (by simp [ndM, *])]; done) | (rw [bI_f (by simp only [ndM, Bool.or_eq_true, decide_eq_true_eq]; exact fun q => q.elim (fun q => q.elim (fun q => q.elim h17 h25) h33) h41)]; done)) (by rfl) (by rfl) T50
  exact wpE (by simp) rfl (by refine memE ?_; exact (arS_self _ _).symm) (L2 0 (by omega))
