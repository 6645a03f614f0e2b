/-! ===== the model: its rows together; sitting down, a new beginning, values, copies ===== -/
def cpF (t f : Int → Int) : Int → Int := fun i => if 0 ≤ i ∧ i < 153 then f i else t i
theorem cpF_in (t f : Int → Int) {i : Int} (h0 : 0 ≤ i) (h1 : i < 153) : cpF t f i = f i := if_pos ⟨h0, h1⟩
theorem cpy_ars (I : mIt) (a : Nat) (f : Int → Int) : cpy I a 153 f = arS I a (cpF (I a) f) := rfl
theorem fset_fset (f : Int → Int) (i v w : Int) : fset (fset f i v) i w = fset f i w := by
  funext j
  unfold fset
  by_cases h : j = i <;> simp [h]
def mdB (I : mIt) (p : Int → Int) (q : Int) (t h : Int → Int) : mIt := arS (arS (arS (mUp I 155 4 q) 158 h) 159 t) 157 p
theorem mdB_self (I : mIt) : mdB I (I 157) (I 155 4) (I 159) (I 158) = I := by
  unfold mdB
  rw [mUp_self I rfl]
  have h1 : arS I 158 (I 158) = I := arS_self _ _
  have h2 : arS I 159 (I 159) = I := arS_self _ _
  have h3 : arS I 157 (I 157) = I := arS_self _ _
  rw [h1, h2, h3]
theorem mdB_eq (I : mIt) (s : Int → Int) : arS I 156 s = arS (mdB I (I 157) (I 155 4) (I 159) (I 158)) 156 s := by rw [mdB_self]
theorem mdB_x (I : mIt) (p : Int → Int) (q : Int) (t h s : Int → Int) (x : Nat) : arS (mdB I p q t h) 156 s x = if x = 156 then s else if x = 157 then p else if x = 159 then t else if x = 158 then h else if x = 155 then fset (I 155) 4 q else I x := rfl
theorem mdB_abs (I : mIt) (p : Int → Int) (q : Int) (t h s p2 : Int → Int) (q2 : Int) (t2 h2 s2 : Int → Int) : arS (mdB (arS (mdB I p q t h) 156 s) p2 q2 t2 h2) 156 s2 = arS (mdB I p2 q2 t2 h2) 156 s2 := by
  funext x
  simp only [mdB_x]
  by_cases h1 : x = 156
  · simp [h1]
  · by_cases h2 : x = 157
    · simp [h2]
    · by_cases h3 : x = 159
      · simp [h3]
      · by_cases h4 : x = 158
        · simp [h4]
        · by_cases h5 : x = 155
          · simp [h5, fset_fset]
          · simp [h1, h2, h3, h4, h5]
/-- copying the row away, and back -/
theorem mdB_cp159 (I : mIt) (p : Int → Int) (q : Int) (t h s f : Int → Int) : cpy (arS (mdB I p q t h) 156 s) 159 153 f = arS (mdB I p q (cpF t f) h) 156 s := by
  funext x
  rw [cpy_ars]
  unfold arS mdB arS
  by_cases h1 : x = 159
  · subst h1; rfl
  · simp [h1]
theorem mdB_cp158 (I : mIt) (p : Int → Int) (q : Int) (t h s f : Int → Int) : cpy (arS (mdB I p q t h) 156 s) 158 153 f = arS (mdB I p q t (cpF h f)) 156 s := by
  funext x
  rw [cpy_ars]
  unfold arS mdB arS
  by_cases h1 : x = 158
  · subst h1; rfl
  · simp [h1]
theorem mdB_cp156 (I : mIt) (p : Int → Int) (q : Int) (t h s f : Int → Int) : cpy (arS (mdB I p q t h) 156 s) 156 153 f = arS (mdB I p q t h) 156 (cpF s f) := by
  rw [cpy_ars, arS_arS]; rfl
def shP (p : Int → Int) : Int → Int := fun k => if 0 ≤ k ∧ k < 459 then p (k + 153) else p k
def inP (p : Int → Int) (q : Int) (n : Nat) (f : Int → Int) : Int → Int := fun i => if 153 * q ≤ i ∧ i < 153 * q + n then f (i - 153 * q) else p i
def chP (r q : Int) (p f : Int → Int) : Int → Int := if r = 0 then (if q = 4 then inP (shP p) 3 153 f else inP p q 153 f) else p
def chQ (r q : Int) : Int := if r = 0 then (if q = 4 then 4 else q + 1) else q
theorem inP_0 (p : Int → Int) (q : Int) (f : Int → Int) : inP p q 0 f = p := by
  funext i
  unfold inP
  rw [if_neg (by omega)]
theorem inP_s (p : Int → Int) (q : Int) (n : Nat) (f : Int → Int) : fset (inP p q n f) (153 * q + (n : Int)) (f n) = inP p q (n + 1) f := by
  funext i
  unfold fset inP
  by_cases h : i = 153 * q + (n : Int)
  · rw [if_pos h, if_pos (by omega), h]
    congr 1
    omega
  · rw [if_neg h]
    by_cases h2 : 153 * q ≤ i ∧ i < 153 * q + (n : Int)
    · rw [if_pos h2, if_pos (by omega)]
    · rw [if_neg h2, if_neg (by omega)]
theorem cpy_459 (I : mIt) : cpy I 157 459 (fun k => I 157 (k + 153)) = arS I 157 (shP (I 157)) := rfl
def clS (s : Int → Int) (c : Int) : Int → Int := fset (cpF s (fun k => if 8 ≤ k ∧ k ≤ 11 then s k else if 12 ≤ k ∧ k ≤ 19 then -1 else 0)) 0 c
theorem getS_ne (s : Int → Int) (n m nc : Nat) (name one other : Int) {i : Int} (h : i < 12) (h5 : i ≠ 5) (hn0 : 0 ≤ name) : getS s n m nc name one other i = s i := by
  have hc := cfV_rng s n m nc one other
  unfold getS
  split
  · exact cfS_ne _ _ _ _ _ _ (by omega) h5
  · unfold gtS
    rw [fset_ne _ _ (by omega), fset_ne _ _ (by omega), fset_ne _ _ (by omega), fset_ne _ _ (by omega), fset_ne _ _ (by omega), fset_ne _ _ (by omega)]
    exact cfS_ne _ _ _ _ _ _ (by omega) h5
set_option maxRecDepth 20000 in
set_option maxHeartbeats 4000000 in
theorem Fn_X6_sits (k : Nat) (I : mIt) (P : mPt) (hM : isMd P) (n : Nat) (hn : I 156 3 = n) (hn6 : n ≤ 6) (m : Nat) (hm : I 156 2 = m) (hm3 : m ≤ 3) (nc : Nat) (hc : I 156 0 = nc) (hc7 : nc ≤ 7) (hs5 : 0 ≤ I 156 5 ∧ I 156 5 ≤ 2000000000) (hs6 : 0 ≤ I 156 6 ∧ I 156 6 ≤ 2000000000) (hs1 : 0 ≤ I 156 1 ∧ I 156 1 ≤ 60000) (hs10 : 0 ≤ I 156 10 ∧ I 156 10 ≤ 9) (name : Int) (hnm0 : 0 ≤ name) (hnm8 : name < 8) (one other : Int) (ho1 : -1 ≤ one) (ho2 : one < 8) (ho3 : -1 ≤ other) (ho4 : other < 8) (ho5 : 0 ≤ one → 0 ≤ other) : WP (k + 5) mX6_sits none (0, 0) (Rt (some (.inl (bI (siB (I 156) n m nc name one other = true)))) (lay0, arS I 156 (siS (I 156) n m nc name one other), P)) 0 [(0, .inr (some 155)), (1, .inl name), (2, .inl one), (3, .inl other)] [] (lay0, I, P) := by
  refine r_aload_n (d := mX6_sits) (pc := 0) (i := 0) (v := 155) dX6_sits_0 rfl rfl ?_
  refine r_getRs (d := mX6_sits) (pc := 1) (a := 155) (kd := 6) (j := 0) (x := 156) dX6_sits_1 flRX6_7 ly155 (by decide) (by decide) rfl hM.1 ?_
  refine r_bipush (d := mX6_sits) (pc := 4) (n := 12) dX6_sits_4 ?_
  refine r_iload_n (d := mX6_sits) (pc := 6) (i := 1) (v := name) dX6_sits_6 rfl rfl ?_
  refine r_iadd (d := mX6_sits) (pc := 7) dX6_sits_7 ?_
  refine r_ialds (d := mX6_sits) (pc := 8) (a := 156) (x := (I 156 (12 + name))) dX6_sits_8 ly156 (by omega) (by omega) (rfl) ?_
  refine r_if_lt (d := mX6_sits) (pc := 9) (tgt := 14) dX6_sits_9 (by decide) (fun h9 => ?_) (fun h9 => ?_)
  · refine r_aload_n (d := mX6_sits) (pc := 14) (i := 0) (v := 155) dX6_sits_14 rfl rfl ?_
    refine r_iload_n (d := mX6_sits) (pc := 15) (i := 1) (v := name) dX6_sits_15 rfl rfl ?_
    refine r_iload_n (d := mX6_sits) (pc := 16) (i := 2) (v := one) dX6_sits_16 rfl rfl ?_
    refine r_iload_n (d := mX6_sits) (pc := 17) (i := 3) (v := other) dX6_sits_17 rfl rfl ?_
    refine r_cV3 (d := mX6_sits) (pc := 18) (dj := mX6_gets) (a := 155) (kd := 6) dX6_sits_18 mlRX6_77 inX6_gets selX6_gets rfl ly155 (by decide) okX6_gets (by decide) rfl (Nat.le_of_ble_eq_true rfl) (by decide) (by decide) (Fn_X6_gets k I P hM n (hn) hn6 m (hm) hm3 nc (hc) hc7 (hs5) name (by omega) (by omega) one other (by omega) (by omega) (by omega) (by omega) (by omega)) ?_
    have hcv := cfV_rng (I 156) n m nc one other
    refine r_istore (d := mX6_sits) (pc := 21) (i := 4) (lv' := [(0, .inr (some 155)), (1, .inl name), (2, .inl one), (3, .inl other), (4, .inl (cfV (I 156) n m nc one other))]) dX6_sits_21 (by decide) rfl rfl ?_
    refine r_iload (d := mX6_sits) (pc := 23) (i := 4) (v := cfV (I 156) n m nc one other) dX6_sits_23 rfl ?_
    refine r_if_ge (d := mX6_sits) (pc := 25) (tgt := 30) dX6_sits_25 (by decide) (fun h25 => ?_) (fun h25 => ?_)
    · refine r_aload_n (d := mX6_sits) (pc := 30) (i := 0) (v := 155) dX6_sits_30 rfl rfl ?_
      refine r_getRs (d := mX6_sits) (pc := 31) (a := 155) (kd := 6) (j := 0) (x := 156) dX6_sits_31 flRX6_7 ly155 (by decide) (by decide) rfl hM.1 ?_
      refine r_bipush (d := mX6_sits) (pc := 34) (n := 10) dX6_sits_34 ?_
      refine r_ialds (d := mX6_sits) (pc := 36) (a := 156) (x := ((I 156) 10)) dX6_sits_36 ly156 (by decide) (by decide) (by show (getS (I 156) n m nc name one other) 10 = _; rw [getS_ne _ _ _ _ _ _ _ (by omega) (by omega) (by omega)]) ?_
      refine r_istore (d := mX6_sits) (pc := 37) (i := 5) (lv' := [(0, .inr (some 155)), (1, .inl name), (2, .inl one), (3, .inl other), (4, .inl (cfV (I 156) n m nc one other)), (5, .inl ((I 156) 10))]) dX6_sits_37 (by decide) rfl rfl ?_
      refine r_aload_n (d := mX6_sits) (pc := 39) (i := 0) (v := 155) dX6_sits_39 rfl rfl ?_
      refine r_getRs (d := mX6_sits) (pc := 40) (a := 155) (kd := 6) (j := 0) (x := 156) dX6_sits_40 flRX6_7 ly155 (by decide) (by decide) rfl hM.1 ?_
      refine r_bipush (d := mX6_sits) (pc := 43) (n := 6) dX6_sits_43 ?_
      refine r_dup2 (d := mX6_sits) (pc := 45) dX6_sits_45 ?_
      refine r_ialds (d := mX6_sits) (pc := 46) (a := 156) (x := ((I 156) 6)) dX6_sits_46 ly156 (by decide) (by decide) (by show (getS (I 156) n m nc name one other) 6 = _; rw [getS_ne _ _ _ _ _ _ _ (by omega) (by omega) (by omega)]) ?_
      refine r_iconst (d := mX6_sits) (pc := 47) (n := 1) dX6_sits_47 ?_
      refine r_iadd (d := mX6_sits) (pc := 48) dX6_sits_48 ?_
      refine r_iasts (d := mX6_sits) (pc := 49) (a := 156) (lay0, arS I 156 (fset (getS (I 156) n m nc name one other) 6 (((I 156) 6) + 1)), P) dX6_sits_49 ly156 (by decide) (by decide) (memE (arS_up _ _ _ _ _)) ?_
      refine r_aload_n (d := mX6_sits) (pc := 50) (i := 0) (v := 155) dX6_sits_50 rfl rfl ?_
      refine r_getRs (d := mX6_sits) (pc := 51) (a := 155) (kd := 6) (j := 0) (x := 156) dX6_sits_51 flRX6_7 ly155 (by decide) (by decide) rfl hM.1 ?_
      refine r_iload (d := mX6_sits) (pc := 54) (i := 4) (v := cfV (I 156) n m nc one other) dX6_sits_54 rfl ?_
      refine r_iconst (d := mX6_sits) (pc := 56) (n := 1) dX6_sits_56 ?_
      refine r_cS2 (d := mX6_sits) (pc := 57) (dj := mX6_at) dX6_sits_57 mlRX6_65 staX6_at okX6_at (by decide) rfl (Nat.le_of_ble_eq_true rfl) (by decide) (by decide) (Fn_X6_at (k + 4) (arS I 156 (fset (getS (I 156) n m nc name one other) 6 (((I 156) 6) + 1))) P (cfV (I 156) n m nc one other) 1 (by omega) (by omega) (by omega) (by omega)) ?_
      refine r_aload_n (d := mX6_sits) (pc := 60) (i := 0) (v := 155) dX6_sits_60 rfl rfl ?_
      refine r_getRs (d := mX6_sits) (pc := 61) (a := 155) (kd := 6) (j := 0) (x := 156) dX6_sits_61 flRX6_7 ly155 (by decide) (by decide) rfl hM.1 ?_
      refine r_bipush (d := mX6_sits) (pc := 64) (n := 20) dX6_sits_64 ?_
      refine r_iload_n (d := mX6_sits) (pc := 66) (i := 1) (v := name) dX6_sits_66 rfl rfl ?_
      refine r_iadd (d := mX6_sits) (pc := 67) dX6_sits_67 ?_
      refine r_ialds (d := mX6_sits) (pc := 68) (a := 156) (x := ((getS (I 156) n m nc name one other) (20 + name))) dX6_sits_68 ly156 (by omega) (by omega) (by show (fset (getS (I 156) n m nc name one other) 6 (((I 156) 6) + 1)) (20 + name) = _; rw [fset_ne _ _ (by omega)]) ?_
      refine r_iasts (d := mX6_sits) (pc := 69) (a := 156) (lay0, arS I 156 (fset (fset (getS (I 156) n m nc name one other) 6 (((I 156) 6) + 1)) (28 + 5 * (cfV (I 156) n m nc one other) + 1) ((getS (I 156) n m nc name one other) (20 + name))), P) dX6_sits_69 ly156 (by omega) (by omega) (memE (arS_up _ _ _ _ _)) ?_
      refine r_aload_n (d := mX6_sits) (pc := 70) (i := 0) (v := 155) dX6_sits_70 rfl rfl ?_
      refine r_getRs (d := mX6_sits) (pc := 71) (a := 155) (kd := 6) (j := 0) (x := 156) dX6_sits_71 flRX6_7 ly155 (by decide) (by decide) rfl hM.1 ?_
      refine r_iload (d := mX6_sits) (pc := 74) (i := 4) (v := cfV (I 156) n m nc one other) dX6_sits_74 rfl ?_
      refine r_iconst (d := mX6_sits) (pc := 76) (n := 2) dX6_sits_76 ?_
      refine r_cS2 (d := mX6_sits) (pc := 77) (dj := mX6_at) dX6_sits_77 mlRX6_65 staX6_at okX6_at (by decide) rfl (Nat.le_of_ble_eq_true rfl) (by decide) (by decide) (Fn_X6_at (k + 4) (arS I 156 (fset (fset (getS (I 156) n m nc name one other) 6 (((I 156) 6) + 1)) (28 + 5 * (cfV (I 156) n m nc one other) + 1) ((getS (I 156) n m nc name one other) (20 + name)))) P (cfV (I 156) n m nc one other) 2 (by omega) (by omega) (by omega) (by omega)) ?_
      refine r_iload (d := mX6_sits) (pc := 80) (i := 5) (v := ((I 156) 10)) dX6_sits_80 rfl ?_
      refine r_if_ne (d := mX6_sits) (pc := 82) (tgt := 89) dX6_sits_82 (by decide) (fun h82 => ?_) (fun h82 => ?_)
      · refine r_iconst (d := mX6_sits) (pc := 89) (n := 0) dX6_sits_89 ?_
        refine r_iasts (d := mX6_sits) (pc := 90) (a := 156) (lay0, arS I 156 (fset (fset (fset (getS (I 156) n m nc name one other) 6 (((I 156) 6) + 1)) (28 + 5 * (cfV (I 156) n m nc one other) + 1) ((getS (I 156) n m nc name one other) (20 + name))) (28 + 5 * (cfV (I 156) n m nc one other) + 2) 0), P) dX6_sits_90 ly156 (by omega) (by omega) (memE (arS_up _ _ _ _ _)) ?_
        refine r_aload_n (d := mX6_sits) (pc := 91) (i := 0) (v := 155) dX6_sits_91 rfl rfl ?_
        refine r_getRs (d := mX6_sits) (pc := 92) (a := 155) (kd := 6) (j := 0) (x := 156) dX6_sits_92 flRX6_7 ly155 (by decide) (by decide) rfl hM.1 ?_
        refine r_iload (d := mX6_sits) (pc := 95) (i := 4) (v := cfV (I 156) n m nc one other) dX6_sits_95 rfl ?_
        refine r_iconst (d := mX6_sits) (pc := 97) (n := 3) dX6_sits_97 ?_
        refine r_cS2 (d := mX6_sits) (pc := 98) (dj := mX6_at) dX6_sits_98 mlRX6_65 staX6_at okX6_at (by decide) rfl (Nat.le_of_ble_eq_true rfl) (by decide) (by decide) (Fn_X6_at (k + 4) (arS I 156 (fset (fset (fset (getS (I 156) n m nc name one other) 6 (((I 156) 6) + 1)) (28 + 5 * (cfV (I 156) n m nc one other) + 1) ((getS (I 156) n m nc name one other) (20 + name))) (28 + 5 * (cfV (I 156) n m nc one other) + 2) 0)) P (cfV (I 156) n m nc one other) 3 (by omega) (by omega) (by omega) (by omega)) ?_
        refine r_iload (d := mX6_sits) (pc := 101) (i := 5) (v := ((I 156) 10)) dX6_sits_101 rfl ?_
        refine r_if_ne (d := mX6_sits) (pc := 103) (tgt := 110) dX6_sits_103 (by decide) (fun h103 => ?_) (fun h103 => ?_)
        · refine r_aload_n (d := mX6_sits) (pc := 110) (i := 0) (v := 155) dX6_sits_110 rfl rfl ?_
          refine r_getRs (d := mX6_sits) (pc := 111) (a := 155) (kd := 6) (j := 0) (x := 156) dX6_sits_111 flRX6_7 ly155 (by decide) (by decide) rfl hM.1 ?_
          refine r_iconst (d := mX6_sits) (pc := 114) (n := 1) dX6_sits_114 ?_
          refine r_ialds (d := mX6_sits) (pc := 115) (a := 156) (x := ((I 156) 1)) dX6_sits_115 ly156 (by decide) (by decide) (by show (fset (fset (fset (getS (I 156) n m nc name one other) 6 (((I 156) 6) + 1)) (28 + 5 * (cfV (I 156) n m nc one other) + 1) ((getS (I 156) n m nc name one other) (20 + name))) (28 + 5 * (cfV (I 156) n m nc one other) + 2) 0) 1 = _; rw [fset_ne _ _ (by omega), fset_ne _ _ (by omega), fset_ne _ _ (by omega), getS_ne _ _ _ _ _ _ _ (by omega) (by omega) (by omega)]) ?_
          refine r_iload (d := mX6_sits) (pc := 116) (i := 5) (v := ((I 156) 10)) dX6_sits_116 rfl ?_
          refine r_iadd (d := mX6_sits) (pc := 118) dX6_sits_118 ?_
          refine r_iasts (d := mX6_sits) (pc := 119) (a := 156) (lay0, arS I 156 (fset (fset (fset (fset (getS (I 156) n m nc name one other) 6 (((I 156) 6) + 1)) (28 + 5 * (cfV (I 156) n m nc one other) + 1) ((getS (I 156) n m nc name one other) (20 + name))) (28 + 5 * (cfV (I 156) n m nc one other) + 2) 0) (28 + 5 * (cfV (I 156) n m nc one other) + 3) (((I 156) 1) + ((I 156) 10))), P) dX6_sits_119 ly156 (by omega) (by omega) (memE (arS_up _ _ _ _ _)) ?_
          refine r_iconst (d := mX6_sits) (pc := 120) (n := 1) dX6_sits_120 ?_
          exact r_zret (d := mX6_sits) (pc := 121) dX6_sits_121 rfl (Or.inr rfl) (rtI (by exact (bI_t (by simp [siB]; omega)).symm) (by refine memE ?_; rw [siS, if_neg (by omega), if_neg (by omega), stX, getS_ne _ _ _ _ _ _ _ (i := 6) (by omega) (by omega) (by omega), getS_ne _ _ _ _ _ _ _ (i := 10) (by omega) (by omega) (by omega), getS_ne _ _ _ _ _ _ _ (i := 1) (by omega) (by omega) (by omega), if_neg h82, if_neg h82])) (by decide) (by decide)
        · refine r_iconst (d := mX6_sits) (pc := 106) (n := (-1)) dX6_sits_106 ?_
          refine r_goto (d := mX6_sits) (pc := 107) (tgt := 119) dX6_sits_107 (by decide) ?_
          refine r_iasts (d := mX6_sits) (pc := 119) (a := 156) (lay0, arS I 156 (fset (fset (fset (fset (getS (I 156) n m nc name one other) 6 (((I 156) 6) + 1)) (28 + 5 * (cfV (I 156) n m nc one other) + 1) ((getS (I 156) n m nc name one other) (20 + name))) (28 + 5 * (cfV (I 156) n m nc one other) + 2) 0) (28 + 5 * (cfV (I 156) n m nc one other) + 3) (-1)), P) dX6_sits_119 ly156 (by omega) (by omega) (memE (arS_up _ _ _ _ _)) ?_
          refine r_iconst (d := mX6_sits) (pc := 120) (n := 1) dX6_sits_120 ?_
          exact r_zret (d := mX6_sits) (pc := 121) dX6_sits_121 rfl (Or.inr rfl) (rtI (by exact (bI_t (by simp [siB]; omega)).symm) (by exfalso; omega)) (by decide) (by decide)
      · refine r_iconst (d := mX6_sits) (pc := 85) (n := 1) dX6_sits_85 ?_
        refine r_goto (d := mX6_sits) (pc := 86) (tgt := 90) dX6_sits_86 (by decide) ?_
        refine r_iasts (d := mX6_sits) (pc := 90) (a := 156) (lay0, arS I 156 (fset (fset (fset (getS (I 156) n m nc name one other) 6 (((I 156) 6) + 1)) (28 + 5 * (cfV (I 156) n m nc one other) + 1) ((getS (I 156) n m nc name one other) (20 + name))) (28 + 5 * (cfV (I 156) n m nc one other) + 2) 1), P) dX6_sits_90 ly156 (by omega) (by omega) (memE (arS_up _ _ _ _ _)) ?_
        refine r_aload_n (d := mX6_sits) (pc := 91) (i := 0) (v := 155) dX6_sits_91 rfl rfl ?_
        refine r_getRs (d := mX6_sits) (pc := 92) (a := 155) (kd := 6) (j := 0) (x := 156) dX6_sits_92 flRX6_7 ly155 (by decide) (by decide) rfl hM.1 ?_
        refine r_iload (d := mX6_sits) (pc := 95) (i := 4) (v := cfV (I 156) n m nc one other) dX6_sits_95 rfl ?_
        refine r_iconst (d := mX6_sits) (pc := 97) (n := 3) dX6_sits_97 ?_
        refine r_cS2 (d := mX6_sits) (pc := 98) (dj := mX6_at) dX6_sits_98 mlRX6_65 staX6_at okX6_at (by decide) rfl (Nat.le_of_ble_eq_true rfl) (by decide) (by decide) (Fn_X6_at (k + 4) (arS I 156 (fset (fset (fset (getS (I 156) n m nc name one other) 6 (((I 156) 6) + 1)) (28 + 5 * (cfV (I 156) n m nc one other) + 1) ((getS (I 156) n m nc name one other) (20 + name))) (28 + 5 * (cfV (I 156) n m nc one other) + 2) 1)) P (cfV (I 156) n m nc one other) 3 (by omega) (by omega) (by omega) (by omega)) ?_
        refine r_iload (d := mX6_sits) (pc := 101) (i := 5) (v := ((I 156) 10)) dX6_sits_101 rfl ?_
        refine r_if_ne (d := mX6_sits) (pc := 103) (tgt := 110) dX6_sits_103 (by decide) (fun h103 => ?_) (fun h103 => ?_)
        · refine r_aload_n (d := mX6_sits) (pc := 110) (i := 0) (v := 155) dX6_sits_110 rfl rfl ?_
          refine r_getRs (d := mX6_sits) (pc := 111) (a := 155) (kd := 6) (j := 0) (x := 156) dX6_sits_111 flRX6_7 ly155 (by decide) (by decide) rfl hM.1 ?_
          refine r_iconst (d := mX6_sits) (pc := 114) (n := 1) dX6_sits_114 ?_
          refine r_ialds (d := mX6_sits) (pc := 115) (a := 156) (x := ((I 156) 1)) dX6_sits_115 ly156 (by decide) (by decide) (by show (fset (fset (fset (getS (I 156) n m nc name one other) 6 (((I 156) 6) + 1)) (28 + 5 * (cfV (I 156) n m nc one other) + 1) ((getS (I 156) n m nc name one other) (20 + name))) (28 + 5 * (cfV (I 156) n m nc one other) + 2) 1) 1 = _; rw [fset_ne _ _ (by omega), fset_ne _ _ (by omega), fset_ne _ _ (by omega), getS_ne _ _ _ _ _ _ _ (by omega) (by omega) (by omega)]) ?_
          refine r_iload (d := mX6_sits) (pc := 116) (i := 5) (v := ((I 156) 10)) dX6_sits_116 rfl ?_
          refine r_iadd (d := mX6_sits) (pc := 118) dX6_sits_118 ?_
          refine r_iasts (d := mX6_sits) (pc := 119) (a := 156) (lay0, arS I 156 (fset (fset (fset (fset (getS (I 156) n m nc name one other) 6 (((I 156) 6) + 1)) (28 + 5 * (cfV (I 156) n m nc one other) + 1) ((getS (I 156) n m nc name one other) (20 + name))) (28 + 5 * (cfV (I 156) n m nc one other) + 2) 1) (28 + 5 * (cfV (I 156) n m nc one other) + 3) (((I 156) 1) + ((I 156) 10))), P) dX6_sits_119 ly156 (by omega) (by omega) (memE (arS_up _ _ _ _ _)) ?_
          refine r_iconst (d := mX6_sits) (pc := 120) (n := 1) dX6_sits_120 ?_
          exact r_zret (d := mX6_sits) (pc := 121) dX6_sits_121 rfl (Or.inr rfl) (rtI (by exact (bI_t (by simp [siB]; omega)).symm) (by exfalso; omega)) (by decide) (by decide)
        · refine r_iconst (d := mX6_sits) (pc := 106) (n := (-1)) dX6_sits_106 ?_
          refine r_goto (d := mX6_sits) (pc := 107) (tgt := 119) dX6_sits_107 (by decide) ?_
          refine r_iasts (d := mX6_sits) (pc := 119) (a := 156) (lay0, arS I 156 (fset (fset (fset (fset (getS (I 156) n m nc name one other) 6 (((I 156) 6) + 1)) (28 + 5 * (cfV (I 156) n m nc one other) + 1) ((getS (I 156) n m nc name one other) (20 + name))) (28 + 5 * (cfV (I 156) n m nc one other) + 2) 1) (28 + 5 * (cfV (I 156) n m nc one other) + 3) (-1)), P) dX6_sits_119 ly156 (by omega) (by omega) (memE (arS_up _ _ _ _ _)) ?_
          refine r_iconst (d := mX6_sits) (pc := 120) (n := 1) dX6_sits_120 ?_
          exact r_zret (d := mX6_sits) (pc := 121) dX6_sits_121 rfl (Or.inr rfl) (rtI (by exact (bI_t (by simp [siB]; omega)).symm) (by refine memE ?_; rw [siS, if_neg (by omega), if_neg (by omega), stX, getS_ne _ _ _ _ _ _ _ (i := 6) (by omega) (by omega) (by omega), getS_ne _ _ _ _ _ _ _ (i := 10) (by omega) (by omega) (by omega), getS_ne _ _ _ _ _ _ _ (i := 1) (by omega) (by omega) (by omega), if_pos h82, if_pos h82])) (by decide) (by decide)
    · refine r_iconst (d := mX6_sits) (pc := 28) (n := 0) dX6_sits_28 ?_
      exact r_zret (d := mX6_sits) (pc := 29) dX6_sits_29 rfl (Or.inl rfl) (rtI (by exact (bI_f (by simp [siB]; omega)).symm) (by refine memE ?_; rw [siS, if_neg (by omega), if_pos (by omega)])) (by decide) (by decide)
  · refine r_iconst (d := mX6_sits) (pc := 12) (n := 1) dX6_sits_12 ?_
    exact r_zret (d := mX6_sits) (pc := 13) dX6_sits_13 rfl (Or.inr rfl) (rtI (by exact (bI_t (by simp [siB]; omega)).symm) (by refine memE ?_; rw [siS, if_pos (by omega)]; exact (arS_self _ _).symm)) (by decide) (by decide)
