/-! ===== Names, Versions, Orders: what their methods do ===== -/
def cpy (I : mIt) (a : Nat) (n : Nat) (f : Int → Int) : mIt := fun x => if x = a then (fun i => if 0 ≤ i ∧ i < (n : Int) then f i else I a i) else I x
theorem cpy_0 (I : mIt) (a : Nat) (f : Int → Int) : cpy I a 0 f = I := by
  funext x
  unfold cpy
  by_cases h : x = a
  · subst h
    rw [if_pos rfl]
    funext i
    rw [if_neg (by omega)]
  · rw [if_neg h]
theorem cpy_ne (I : mIt) {a x : Nat} (n : Nat) (f : Int → Int) (h : x ≠ a) : cpy I a n f x = I x := by unfold cpy; rw [if_neg h]
theorem cpy_in (I : mIt) {a : Nat} {n : Nat} (f : Int → Int) {i : Int} (h0 : 0 ≤ i) (h1 : i < (n : Int)) : cpy I a n f a i = f i := by unfold cpy; rw [if_pos rfl, if_pos ⟨h0, h1⟩]
theorem cpy_s (I : mIt) (a n : Nat) (f : Int → Int) (v : Int) (h : v = f n) : mUp (cpy I a n f) a (n : Int) v = cpy I a (n + 1) f := by
  subst h
  funext x
  unfold mUp cpy
  by_cases h : x = a
  · subst h
    rw [if_pos rfl, if_pos rfl]
    funext i
    unfold fset
    by_cases hi : i = (n : Int)
    · subst hi
      simp
      intro h9; omega
    · rw [if_neg hi, if_pos rfl]
      by_cases h2 : 0 ≤ i ∧ i < (n : Int)
      · have h3 : 0 ≤ i ∧ i < ((n + 1 : Nat) : Int) := by omega
        simp only [if_pos h2, if_pos h3]
      · have h3 : ¬ (0 ≤ i ∧ i < ((n + 1 : Nat) : Int)) := by omega
        simp only [if_neg h2, if_neg h3]
  · rw [if_neg h, if_neg h, if_neg h]
theorem mUp_comm (I : mIt) {a b : Nat} (h : a ≠ b) (i j x y : Int) : mUp (mUp I a i x) b j y = mUp (mUp I b j y) a i x := by
  funext z
  unfold mUp
  by_cases h1 : z = b
  · subst h1
    simp [Ne.symm h]
  · by_cases h2 : z = a
    · subst h2
      simp [h1, h]
    · simp [h1, h2]
theorem mUp_cpy (I : mIt) {a b : Nat} (h : a ≠ b) (i x : Int) (n : Nat) (f : Int → Int) : mUp (cpy I b n f) a i x = cpy (mUp I a i x) b n f := by
  funext z
  unfold mUp cpy
  by_cases h1 : z = a
  · subst h1
    simp [h]
  · by_cases h2 : z = b
    · subst h2
      simp [h1]
    · simp [h1, h2]
/-- two rows side by side, one step further -/
theorem cpy2_s (I : mIt) {a b : Nat} (h : a ≠ b) (n : Nat) (f g : Int → Int) : mUp (mUp (cpy (cpy I a n f) b n g) a (n : Int) (f n)) b (n : Int) (g n) = cpy (cpy I a (n + 1) f) b (n + 1) g := by
  rw [mUp_cpy _ h, cpy_s _ _ _ _ _ rfl, cpy_s _ _ _ _ _ rfl]
theorem cpy3_s (I : mIt) {a b c : Nat} (h : a ≠ b) (h2 : a ≠ c) (h3 : b ≠ c) (n : Nat) (f g e : Int → Int) : mUp (mUp (mUp (cpy (cpy (cpy I a n f) b n g) c n e) a (n : Int) (f n)) b (n : Int) (g n)) c (n : Int) (e n) = cpy (cpy (cpy I a (n + 1) f) b (n + 1) g) c (n + 1) e := by
  rw [mUp_cpy _ h2, mUp_cpy _ h, mUp_cpy _ h3, cpy_s _ _ _ _ _ rfl, cpy_s _ _ _ _ _ rfl, cpy_s _ _ _ _ _ rfl]
def nmask (f : Int → Int) (w : Int) : Nat → Int
  | 0 => 0
  | n + 1 => if f n = w then bOr (nmask f w n) (bShl 1 n) else nmask f w n
def cset (f : Int → Int) : Nat → Int
  | 0 => 0
  | n + 1 => if f n = -1 then cset f n else bOr (cset f n) (bShl 1 (f n))
def csetOf (f : Int → Int) (n : Int) : Int := if n < 0 ∨ 8 ≤ n ∨ f n = -1 then 0 else bShl 1 (f n)
def vPlace (I : mIt) (v kn us : Nat) (ch nv nk use : Int) : mIt := if 0 ≤ ch ∧ ch < 7 then mUp (mUp (mUp I v ch nv) kn ch nk) us ch use else I
def vUse (I : mIt) (us : Nat) (ch use : Int) : mIt := if 0 ≤ ch ∧ ch < 7 then mUp I us ch use else I
def vOn (f : Int → Int) (ch : Int) : Int := if 0 ≤ ch ∧ ch < 7 then f ch else 0
def kOf (f : Int → Int) (ch : Int) : Int := if 0 ≤ ch ∧ ch < 7 then f ch else 1000000
theorem mUp_self (I : mIt) {a : Nat} {i v : Int} (h : I a i = v) : mUp I a i v = I := by
  funext x
  unfold mUp
  by_cases hx : x = a
  · subst hx
    rw [if_pos rfl]
    funext j
    unfold fset
    by_cases hj : j = i
    · subst hj; rw [if_pos rfl, h]
    · rw [if_neg hj]
  · rw [if_neg hx]
theorem mUp_mUp (I : mIt) (a : Nat) (i v w : Int) : mUp (mUp I a i v) a i w = mUp I a i w := by
  funext x
  unfold mUp
  by_cases hx : x = a
  · subst hx
    simp only [if_true]
    funext j
    unfold fset
    by_cases hj : j = i <;> simp [hj]
  · simp [hx]
theorem cpy_skip (I : mIt) {a n : Nat} {f : Int → Int} (h : I a n = f n) : cpy I a n f = cpy I a (n + 1) f := by
  rw [← cpy_s I a n f (f n) rfl]
  refine (mUp_self _ ?_).symm
  unfold cpy
  rw [if_pos rfl, if_neg (by omega), h]
def anyE (f : Int → Int) (w : Int) : Nat → Bool
  | 0 => false
  | n + 1 => anyE f w n || decide (f n = w)
theorem anyE_iff (f : Int → Int) (w : Int) (n : Nat) : anyE f w n = true ↔ ∃ i : Nat, i < n ∧ f i = w := by
  induction n with
  | zero => simp [anyE]
  | succ n ih =>
    simp only [anyE, Bool.or_eq_true, ih, decide_eq_true_eq]
    constructor
    · rintro (⟨i, h1, h2⟩ | h)
      · exact ⟨i, by omega, h2⟩
      · exact ⟨n, by omega, h⟩
    · rintro ⟨i, h1, h2⟩
      by_cases hi : i = n
      · exact Or.inr (by rw [← hi]; exact h2)
      · exact Or.inl ⟨i, by omega, h2⟩
/-- how many orders read a version -/
def rdrs (f g : Int → Int) (w : Int) : Nat → Int
  | 0 => 0
  | n + 1 => rdrs f g w n + (if f n = w ∨ g n = w then 1 else 0)
theorem rdrs_le (f g : Int → Int) (w : Int) (n : Nat) : 0 ≤ rdrs f g w n ∧ rdrs f g w n ≤ n := by
  induction n with
  | zero => simp [rdrs]
  | succ n ih =>
    unfold rdrs
    split <;> omega
/-- how many orders stay that were given under at most t marks -/
def dropF (f : Int → Int) (t : Int) : Nat → Nat
  | 0 => 0
  | n + 1 => if t < f n then dropF f t n else n + 1
theorem dropF_le (f : Int → Int) (t : Int) (n : Nat) : dropF f t n ≤ n := by
  induction n with
  | zero => simp [dropF]
  | succ n ih => unfold dropF; split <;> omega
def oAdd (I : mIt) (a w c f g m : Nat) (kind nc r1 r2 mk : Int) : mIt := if 0 ≤ I a 0 ∧ I a 0 < 6 then mUp (mUp (mUp (mUp (mUp (mUp I w (I a 0) kind) c (I a 0) nc) f (I a 0) r1) g (I a 0) r2) m (I a 0) mk) a 0 (I a 0 + 1) else I
def oMove (I : mIt) (w c f g m : Nat) (x y : Int) : mIt := if 0 ≤ x ∧ x < 6 ∧ 0 ≤ y ∧ y < x then mUp (mUp (mUp (mUp (mUp I w y (I w x)) c y (I c x)) f y (I f x)) g y (I g x)) m y (I m x) else I
theorem dropF_st (f : Int → Int) (t : Int) (n : Nat) (h : 0 < n → ¬ t < f ((n : Int) - 1)) : dropF f t n = n := by
  cases n with
  | zero => rfl
  | succ n =>
    unfold dropF
    rw [if_neg (by have := h (by omega); rwa [show ((n + 1 : Nat) : Int) - 1 = n by omega] at this)]
theorem cpy5_s (I : mIt) {a b c d e : Nat} (n1 : a ≠ b ∧ a ≠ c ∧ a ≠ d ∧ a ≠ e) (n2 : b ≠ c ∧ b ≠ d ∧ b ≠ e) (n3 : c ≠ d ∧ c ≠ e) (n4 : d ≠ e) (n : Nat) (f1 f2 f3 f4 f5 : Int → Int) :
    mUp (mUp (mUp (mUp (mUp (cpy (cpy (cpy (cpy (cpy I a n f1) b n f2) c n f3) d n f4) e n f5) a (n : Int) (f1 n)) b (n : Int) (f2 n)) c (n : Int) (f3 n)) d (n : Int) (f4 n)) e (n : Int) (f5 n) = cpy (cpy (cpy (cpy (cpy I a (n + 1) f1) b (n + 1) f2) c (n + 1) f3) d (n + 1) f4) e (n + 1) f5 := by
  rw [mUp_cpy _ n1.2.2.2, mUp_cpy _ n1.2.2.1, mUp_cpy _ n1.2.1, mUp_cpy _ n1.1, mUp_cpy _ n2.2.2, mUp_cpy _ n2.2.1, mUp_cpy _ n2.1, mUp_cpy _ n3.2, mUp_cpy _ n3.1, mUp_cpy _ n4, cpy_s _ _ _ _ _ rfl, cpy_s _ _ _ _ _ rfl, cpy_s _ _ _ _ _ rfl, cpy_s _ _ _ _ _ rfl, cpy_s _ _ _ _ _ rfl]
set_option maxRecDepth 20000 in
set_option maxHeartbeats 4000000 in
theorem Fn_X0_namesOn (k : Nat) (I : mIt) (P : mPt) (a c h : Nat) (hN : isNm P a c h) (w : Int) : WP (k + 0) mX0_namesOn none (0, 0) (Rt (some (.inl (nmask (I c) w 8))) (lay0, I, P)) 0 [(0, .inr (some a)), (1, .inl w)] [] (lay0, I, P) := by
  refine r_iconst (d := mX0_namesOn) (pc := 0) (n := 0) dX0_namesOn_0 ?_
  refine r_istore_n (d := mX0_namesOn) (pc := 1) (i := 2) (lv' := [(0, .inr (some a)), (1, .inl w), (2, .inl 0)]) dX0_namesOn_1 rfl (by decide) rfl rfl ?_
  refine r_iconst (d := mX0_namesOn) (pc := 2) (n := 0) dX0_namesOn_2 ?_
  refine r_istore_n (d := mX0_namesOn) (pc := 3) (i := 3) (lv' := [(0, .inr (some a)), (1, .inl w), (2, .inl 0), (3, .inl 0)]) dX0_namesOn_3 rfl (by decide) rfl rfl ?_
  have L4 : ∀ j : Nat, j ≤ 8 → WP (k + 0) mX0_namesOn none (0, 0) (Rt (some (.inl (nmask (I c) w 8))) (lay0, I, P)) 4 [(0, .inr (some a)), (1, .inl w), (2, .inl (nmask (I c) w j)), (3, .inl (j : Int))] [] (lay0, I, P) := by
    refine loopN (8) _ (fun j ih4 hj4 => ?_)
    refine r_iload_n (d := mX0_namesOn) (pc := 4) (i := 3) (v := (j : Int)) dX0_namesOn_4 rfl rfl ?_
    refine r_bipush (d := mX0_namesOn) (pc := 5) (n := 8) dX0_namesOn_5 ?_
    refine r_icmp_ge (d := mX0_namesOn) (pc := 7) (tgt := 32) dX0_namesOn_7 (by decide) (fun h7 => ?_) (fun h7 => ?_)
    · refine r_iload_n (d := mX0_namesOn) (pc := 32) (i := 2) (v := nmask (I c) w j) dX0_namesOn_32 rfl rfl ?_
      exact r_iret (d := mX0_namesOn) (pc := 33) dX0_namesOn_33 rfl (rtI (by rw [show j = 8 by omega]) (by rfl)) (by decide) (by decide)
    · refine r_aload_n (d := mX0_namesOn) (pc := 10) (i := 0) (v := a) dX0_namesOn_10 rfl rfl ?_
      refine r_getRs (d := mX0_namesOn) (pc := 11) (a := a) (kd := 0) (j := 0) (x := c) dX0_namesOn_11 flRX0_9 hN.1 (by decide) (by decide) rfl hN.2.2.2.1 ?_
      refine r_iload_n (d := mX0_namesOn) (pc := 14) (i := 3) (v := (j : Int)) dX0_namesOn_14 rfl rfl ?_
      refine r_ialds (d := mX0_namesOn) (pc := 15) (a := c) (x := (I c (j : Int))) dX0_namesOn_15 hN.2.1 (by omega) (by omega) (rfl) ?_
      refine r_iload_n (d := mX0_namesOn) (pc := 16) (i := 1) (v := w) dX0_namesOn_16 rfl rfl ?_
      refine r_icmp_ne (d := mX0_namesOn) (pc := 17) (tgt := 26) dX0_namesOn_17 (by decide) (fun h17 => ?_) (fun h17 => ?_)
      · refine r_iinc (d := mX0_namesOn) (pc := 26) (i := 3) (v := (j : Int)) (y := ((j + 1 : Nat) : Int)) (lv' := [(0, .inr (some a)), (1, .inl w), (2, .inl (nmask (I c) w j)), (3, .inl ((j + 1 : Nat) : Int))]) dX0_namesOn_26 rfl (by decide) rfl (by omega) rfl ?_
        refine r_goto (d := mX0_namesOn) (pc := 29) (tgt := 4) dX0_namesOn_29 (by decide) ?_
        exact wpE (by simp [nmask, *]) rfl (by rfl) (ih4 (by omega) (by omega))
      · refine r_iload_n (d := mX0_namesOn) (pc := 20) (i := 2) (v := nmask (I c) w j) dX0_namesOn_20 rfl rfl ?_
        refine r_iconst (d := mX0_namesOn) (pc := 21) (n := 1) dX0_namesOn_21 ?_
        refine r_iload_n (d := mX0_namesOn) (pc := 22) (i := 3) (v := (j : Int)) dX0_namesOn_22 rfl rfl ?_
        refine r_ishl (d := mX0_namesOn) (pc := 23) dX0_namesOn_23 ?_
        refine r_ior (d := mX0_namesOn) (pc := 24) dX0_namesOn_24 ?_
        refine r_istore_n (d := mX0_namesOn) (pc := 25) (i := 2) (lv' := [(0, .inr (some a)), (1, .inl w), (2, .inl (bOr (nmask (I c) w j) (bShl 1 (j : Int)))), (3, .inl (j : Int))]) dX0_namesOn_25 rfl (by decide) rfl rfl ?_
        refine r_iinc (d := mX0_namesOn) (pc := 26) (i := 3) (v := (j : Int)) (y := ((j + 1 : Nat) : Int)) (lv' := [(0, .inr (some a)), (1, .inl w), (2, .inl (bOr (nmask (I c) w j) (bShl 1 (j : Int)))), (3, .inl ((j + 1 : Nat) : Int))]) dX0_namesOn_26 rfl (by decide) rfl (by omega) rfl ?_
        refine r_goto (d := mX0_namesOn) (pc := 29) (tgt := 4) dX0_namesOn_29 (by decide) ?_
        exact wpE (by simp [nmask, *]) rfl (by rfl) (ih4 (by omega) (by omega))
  exact wpE (by simp [nmask]) rfl (by rfl) (L4 0 (by omega))
set_option maxRecDepth 20000 in
set_option maxHeartbeats 4000000 in
theorem Fn_X0_chairSet (k : Nat) (I : mIt) (P : mPt) (a c h : Nat) (hN : isNm P a c h) : WP (k + 0) mX0_chairSet none (0, 0) (Rt (some (.inl (cset (I c) 8))) (lay0, I, P)) 0 [(0, .inr (some a))] [] (lay0, I, P) := by
  refine r_iconst (d := mX0_chairSet) (pc := 0) (n := 0) dX0_chairSet_0 ?_
  refine r_istore_n (d := mX0_chairSet) (pc := 1) (i := 1) (lv' := [(0, .inr (some a)), (1, .inl 0)]) dX0_chairSet_1 rfl (by decide) rfl rfl ?_
  refine r_iconst (d := mX0_chairSet) (pc := 2) (n := 0) dX0_chairSet_2 ?_
  refine r_istore_n (d := mX0_chairSet) (pc := 3) (i := 2) (lv' := [(0, .inr (some a)), (1, .inl 0), (2, .inl 0)]) dX0_chairSet_3 rfl (by decide) rfl rfl ?_
  have L4 : ∀ j : Nat, j ≤ 8 → WP (k + 0) mX0_chairSet none (0, 0) (Rt (some (.inl (cset (I c) 8))) (lay0, I, P)) 4 [(0, .inr (some a)), (1, .inl (cset (I c) j)), (2, .inl (j : Int))] [] (lay0, I, P) := by
    refine loopN (8) _ (fun j ih4 hj4 => ?_)
    refine r_iload_n (d := mX0_chairSet) (pc := 4) (i := 2) (v := (j : Int)) dX0_chairSet_4 rfl rfl ?_
    refine r_bipush (d := mX0_chairSet) (pc := 5) (n := 8) dX0_chairSet_5 ?_
    refine r_icmp_ge (d := mX0_chairSet) (pc := 7) (tgt := 37) dX0_chairSet_7 (by decide) (fun h7 => ?_) (fun h7 => ?_)
    · refine r_iload_n (d := mX0_chairSet) (pc := 37) (i := 1) (v := cset (I c) j) dX0_chairSet_37 rfl rfl ?_
      exact r_iret (d := mX0_chairSet) (pc := 38) dX0_chairSet_38 rfl (rtI (by rw [show j = 8 by omega]) (by rfl)) (by decide) (by decide)
    · refine r_aload_n (d := mX0_chairSet) (pc := 10) (i := 0) (v := a) dX0_chairSet_10 rfl rfl ?_
      refine r_getRs (d := mX0_chairSet) (pc := 11) (a := a) (kd := 0) (j := 0) (x := c) dX0_chairSet_11 flRX0_9 hN.1 (by decide) (by decide) rfl hN.2.2.2.1 ?_
      refine r_iload_n (d := mX0_chairSet) (pc := 14) (i := 2) (v := (j : Int)) dX0_chairSet_14 rfl rfl ?_
      refine r_ialds (d := mX0_chairSet) (pc := 15) (a := c) (x := (I c (j : Int))) dX0_chairSet_15 hN.2.1 (by omega) (by omega) (rfl) ?_
      refine r_iconst (d := mX0_chairSet) (pc := 16) (n := (-1)) dX0_chairSet_16 ?_
      refine r_icmp_eq (d := mX0_chairSet) (pc := 17) (tgt := 31) dX0_chairSet_17 (by decide) (fun h17 => ?_) (fun h17 => ?_)
      · refine r_iinc (d := mX0_chairSet) (pc := 31) (i := 2) (v := (j : Int)) (y := ((j + 1 : Nat) : Int)) (lv' := [(0, .inr (some a)), (1, .inl (cset (I c) j)), (2, .inl ((j + 1 : Nat) : Int))]) dX0_chairSet_31 rfl (by decide) rfl (by omega) rfl ?_
        refine r_goto (d := mX0_chairSet) (pc := 34) (tgt := 4) dX0_chairSet_34 (by decide) ?_
        exact wpE (by simp [cset, *]) rfl (by rfl) (ih4 (by omega) (by omega))
      · refine r_iload_n (d := mX0_chairSet) (pc := 20) (i := 1) (v := cset (I c) j) dX0_chairSet_20 rfl rfl ?_
        refine r_iconst (d := mX0_chairSet) (pc := 21) (n := 1) dX0_chairSet_21 ?_
        refine r_aload_n (d := mX0_chairSet) (pc := 22) (i := 0) (v := a) dX0_chairSet_22 rfl rfl ?_
        refine r_getRs (d := mX0_chairSet) (pc := 23) (a := a) (kd := 0) (j := 0) (x := c) dX0_chairSet_23 flRX0_9 hN.1 (by decide) (by decide) rfl hN.2.2.2.1 ?_
        refine r_iload_n (d := mX0_chairSet) (pc := 26) (i := 2) (v := (j : Int)) dX0_chairSet_26 rfl rfl ?_
        refine r_ialds (d := mX0_chairSet) (pc := 27) (a := c) (x := (I c (j : Int))) dX0_chairSet_27 hN.2.1 (by omega) (by omega) (rfl) ?_
        refine r_ishl (d := mX0_chairSet) (pc := 28) dX0_chairSet_28 ?_
        refine r_ior (d := mX0_chairSet) (pc := 29) dX0_chairSet_29 ?_
        refine r_istore_n (d := mX0_chairSet) (pc := 30) (i := 1) (lv' := [(0, .inr (some a)), (1, .inl (bOr (cset (I c) j) (bShl 1 (I c (j : Int))))), (2, .inl (j : Int))]) dX0_chairSet_30 rfl (by decide) rfl rfl ?_
        refine r_iinc (d := mX0_chairSet) (pc := 31) (i := 2) (v := (j : Int)) (y := ((j + 1 : Nat) : Int)) (lv' := [(0, .inr (some a)), (1, .inl (bOr (cset (I c) j) (bShl 1 (I c (j : Int))))), (2, .inl ((j + 1 : Nat) : Int))]) dX0_chairSet_31 rfl (by decide) rfl (by omega) rfl ?_
        refine r_goto (d := mX0_chairSet) (pc := 34) (tgt := 4) dX0_chairSet_34 (by decide) ?_
        exact wpE (by simp [cset, *]) rfl (by rfl) (ih4 (by omega) (by omega))
  exact wpE (by simp [cset]) rfl (by rfl) (L4 0 (by omega))
set_option maxRecDepth 20000 in
set_option maxHeartbeats 4000000 in
theorem Fn_X0_chairSetOf (k : Nat) (I : mIt) (P : mPt) (a c h : Nat) (hN : isNm P a c h) (w : Int) : WP (k + 0) mX0_chairSetOf none (0, 0) (Rt (some (.inl (csetOf (I c) w))) (lay0, I, P)) 0 [(0, .inr (some a)), (1, .inl w)] [] (lay0, I, P) := by
  refine r_iload_n (d := mX0_chairSetOf) (pc := 0) (i := 1) (v := w) dX0_chairSetOf_0 rfl rfl ?_
  refine r_if_lt (d := mX0_chairSetOf) (pc := 1) (tgt := 20) dX0_chairSetOf_1 (by decide) (fun h1 => ?_) (fun h1 => ?_)
  · refine r_iconst (d := mX0_chairSetOf) (pc := 20) (n := 0) dX0_chairSetOf_20 ?_
    exact r_iret (d := mX0_chairSetOf) (pc := 21) dX0_chairSetOf_21 rfl (rtI (by simp [csetOf, *]; try omega) (by rfl)) (by decide) (by decide)
  · refine r_iload_n (d := mX0_chairSetOf) (pc := 4) (i := 1) (v := w) dX0_chairSetOf_4 rfl rfl ?_
    refine r_bipush (d := mX0_chairSetOf) (pc := 5) (n := 8) dX0_chairSetOf_5 ?_
    refine r_icmp_ge (d := mX0_chairSetOf) (pc := 7) (tgt := 20) dX0_chairSetOf_7 (by decide) (fun h7 => ?_) (fun h7 => ?_)
    · refine r_iconst (d := mX0_chairSetOf) (pc := 20) (n := 0) dX0_chairSetOf_20 ?_
      exact r_iret (d := mX0_chairSetOf) (pc := 21) dX0_chairSetOf_21 rfl (rtI (by simp [csetOf, *]; try omega) (by rfl)) (by decide) (by decide)
    · refine r_aload_n (d := mX0_chairSetOf) (pc := 10) (i := 0) (v := a) dX0_chairSetOf_10 rfl rfl ?_
      refine r_getRs (d := mX0_chairSetOf) (pc := 11) (a := a) (kd := 0) (j := 0) (x := c) dX0_chairSetOf_11 flRX0_9 hN.1 (by decide) (by decide) rfl hN.2.2.2.1 ?_
      refine r_iload_n (d := mX0_chairSetOf) (pc := 14) (i := 1) (v := w) dX0_chairSetOf_14 rfl rfl ?_
      refine r_ialds (d := mX0_chairSetOf) (pc := 15) (a := c) (x := (I c w)) dX0_chairSetOf_15 hN.2.1 (by omega) (by omega) (rfl) ?_
      refine r_iconst (d := mX0_chairSetOf) (pc := 16) (n := (-1)) dX0_chairSetOf_16 ?_
      refine r_icmp_ne (d := mX0_chairSetOf) (pc := 17) (tgt := 22) dX0_chairSetOf_17 (by decide) (fun h17 => ?_) (fun h17 => ?_)
      · refine r_iconst (d := mX0_chairSetOf) (pc := 22) (n := 1) dX0_chairSetOf_22 ?_
        refine r_aload_n (d := mX0_chairSetOf) (pc := 23) (i := 0) (v := a) dX0_chairSetOf_23 rfl rfl ?_
        refine r_getRs (d := mX0_chairSetOf) (pc := 24) (a := a) (kd := 0) (j := 0) (x := c) dX0_chairSetOf_24 flRX0_9 hN.1 (by decide) (by decide) rfl hN.2.2.2.1 ?_
        refine r_iload_n (d := mX0_chairSetOf) (pc := 27) (i := 1) (v := w) dX0_chairSetOf_27 rfl rfl ?_
        refine r_ialds (d := mX0_chairSetOf) (pc := 28) (a := c) (x := (I c w)) dX0_chairSetOf_28 hN.2.1 (by omega) (by omega) (rfl) ?_
        refine r_ishl (d := mX0_chairSetOf) (pc := 29) dX0_chairSetOf_29 ?_
        exact r_iret (d := mX0_chairSetOf) (pc := 30) dX0_chairSetOf_30 rfl (rtI (by simp [csetOf, *]; try omega) (by rfl)) (by decide) (by decide)
      · refine r_iconst (d := mX0_chairSetOf) (pc := 20) (n := 0) dX0_chairSetOf_20 ?_
        exact r_iret (d := mX0_chairSetOf) (pc := 21) dX0_chairSetOf_21 rfl (rtI (by simp [csetOf, *]; try omega) (by rfl)) (by decide) (by decide)
set_option maxRecDepth 20000 in
set_option maxHeartbeats 4000000 in
theorem Fn_X0_standAtZero (k : Nat) (I : mIt) (P : mPt) (a c h : Nat) (hN : isNm P a c h) (hch : c ≠ h) : WP (k + 0) mX0_standAtZero none (0, 0) (Rt none (lay0, cpy (cpy I c 8 (fun _ => -1)) h 8 (fun _ => 0), P)) 0 [(0, .inr (some a))] [] (lay0, I, P) := by
  refine r_iconst (d := mX0_standAtZero) (pc := 0) (n := 0) dX0_standAtZero_0 ?_
  refine r_istore_n (d := mX0_standAtZero) (pc := 1) (i := 1) (lv' := [(0, .inr (some a)), (1, .inl 0)]) dX0_standAtZero_1 rfl (by decide) rfl rfl ?_
  have L2 : ∀ j : Nat, j ≤ 8 → WP (k + 0) mX0_standAtZero none (0, 0) (Rt none (lay0, cpy (cpy I c 8 (fun _ => -1)) h 8 (fun _ => 0), P)) 2 [(0, .inr (some a)), (1, .inl (j : Int))] [] (lay0, cpy (cpy I c j (fun _ => -1)) h j (fun _ => 0), P) := by
    refine loopN (8) _ (fun j ih2 hj2 => ?_)
    refine r_iload_n (d := mX0_standAtZero) (pc := 2) (i := 1) (v := (j : Int)) dX0_standAtZero_2 rfl rfl ?_
    refine r_bipush (d := mX0_standAtZero) (pc := 3) (n := 8) dX0_standAtZero_3 ?_
    refine r_icmp_ge (d := mX0_standAtZero) (pc := 5) (tgt := 28) dX0_standAtZero_5 (by decide) (fun h5 => ?_) (fun h5 => ?_)
    · exact r_ret (d := mX0_standAtZero) (pc := 28) dX0_standAtZero_28 rfl (rtV (by rw [show j = 8 by omega])) (by decide) (by decide)
    · refine r_aload_n (d := mX0_standAtZero) (pc := 8) (i := 0) (v := a) dX0_standAtZero_8 rfl rfl ?_
      refine r_getRs (d := mX0_standAtZero) (pc := 9) (a := a) (kd := 0) (j := 0) (x := c) dX0_standAtZero_9 flRX0_9 hN.1 (by decide) (by decide) rfl hN.2.2.2.1 ?_
      refine r_iload_n (d := mX0_standAtZero) (pc := 12) (i := 1) (v := (j : Int)) dX0_standAtZero_12 rfl rfl ?_
      refine r_iconst (d := mX0_standAtZero) (pc := 13) (n := (-1)) dX0_standAtZero_13 ?_
      refine r_iasts (d := mX0_standAtZero) (pc := 14) (a := c) (lay0, mUp (cpy (cpy I c j (fun _ => -1)) h j (fun _ => 0)) c (j : Int) (-1), P) dX0_standAtZero_14 hN.2.1 (by omega) (by omega) rfl ?_
      refine r_aload_n (d := mX0_standAtZero) (pc := 15) (i := 0) (v := a) dX0_standAtZero_15 rfl rfl ?_
      refine r_getRs (d := mX0_standAtZero) (pc := 16) (a := a) (kd := 0) (j := 1) (x := h) dX0_standAtZero_16 flRX0_15 hN.1 (by decide) (by decide) rfl hN.2.2.2.2 ?_
      refine r_iload_n (d := mX0_standAtZero) (pc := 19) (i := 1) (v := (j : Int)) dX0_standAtZero_19 rfl rfl ?_
      refine r_iconst (d := mX0_standAtZero) (pc := 20) (n := 0) dX0_standAtZero_20 ?_
      refine r_iasts (d := mX0_standAtZero) (pc := 21) (a := h) (lay0, mUp (mUp (cpy (cpy I c j (fun _ => -1)) h j (fun _ => 0)) c (j : Int) (-1)) h (j : Int) 0, P) dX0_standAtZero_21 hN.2.2.1 (by omega) (by omega) rfl ?_
      refine r_iinc (d := mX0_standAtZero) (pc := 22) (i := 1) (v := (j : Int)) (y := ((j + 1 : Nat) : Int)) (lv' := [(0, .inr (some a)), (1, .inl ((j + 1 : Nat) : Int))]) dX0_standAtZero_22 rfl (by decide) rfl (by omega) rfl ?_
      refine r_goto (d := mX0_standAtZero) (pc := 25) (tgt := 2) dX0_standAtZero_25 (by decide) ?_
      exact wpE (by simp) rfl (by rw [cpy2_s I hch j (fun _ => -1) (fun _ => 0)]) (ih2 (by omega) (by omega))
  exact wpE (by simp) rfl (by rw [cpy_0, cpy_0]) (L2 0 (by omega))
set_option maxRecDepth 20000 in
set_option maxHeartbeats 4000000 in
theorem Fn_X0_become (k : Nat) (I : mIt) (P : mPt) (a c h : Nat) (hN : isNm P a c h) (a2 c2 h2 : Nat) (hN2 : isNm P a2 c2 h2) (hch : c ≠ h) (n1 : c2 ≠ c) (n2 : c2 ≠ h) (n3 : h2 ≠ c) (n4 : h2 ≠ h) : WP (k + 0) mX0_become none (0, 0) (Rt none (lay0, cpy (cpy I c 8 (I c2)) h 8 (I h2), P)) 0 [(0, .inr (some a)), (1, .inr (some a2))] [] (lay0, I, P) := by
  refine r_iconst (d := mX0_become) (pc := 0) (n := 0) dX0_become_0 ?_
  refine r_istore_n (d := mX0_become) (pc := 1) (i := 2) (lv' := [(0, .inr (some a)), (1, .inr (some a2)), (2, .inl 0)]) dX0_become_1 rfl (by decide) rfl rfl ?_
  have L2 : ∀ j : Nat, j ≤ 8 → WP (k + 0) mX0_become none (0, 0) (Rt none (lay0, cpy (cpy I c 8 (I c2)) h 8 (I h2), P)) 2 [(0, .inr (some a)), (1, .inr (some a2)), (2, .inl (j : Int))] [] (lay0, cpy (cpy I c j (I c2)) h j (I h2), P) := by
    refine loopN (8) _ (fun j ih2 hj2 => ?_)
    refine r_iload_n (d := mX0_become) (pc := 2) (i := 2) (v := (j : Int)) dX0_become_2 rfl rfl ?_
    refine r_bipush (d := mX0_become) (pc := 3) (n := 8) dX0_become_3 ?_
    refine r_icmp_ge (d := mX0_become) (pc := 5) (tgt := 38) dX0_become_5 (by decide) (fun h5 => ?_) (fun h5 => ?_)
    · exact r_ret (d := mX0_become) (pc := 38) dX0_become_38 rfl (rtV (by rw [show j = 8 by omega])) (by decide) (by decide)
    · refine r_aload_n (d := mX0_become) (pc := 8) (i := 0) (v := a) dX0_become_8 rfl rfl ?_
      refine r_getRs (d := mX0_become) (pc := 9) (a := a) (kd := 0) (j := 0) (x := c) dX0_become_9 flRX0_9 hN.1 (by decide) (by decide) rfl hN.2.2.2.1 ?_
      refine r_iload_n (d := mX0_become) (pc := 12) (i := 2) (v := (j : Int)) dX0_become_12 rfl rfl ?_
      refine r_aload_n (d := mX0_become) (pc := 13) (i := 1) (v := a2) dX0_become_13 rfl rfl ?_
      refine r_getRs (d := mX0_become) (pc := 14) (a := a2) (kd := 0) (j := 0) (x := c2) dX0_become_14 flRX0_9 hN2.1 (by decide) (by decide) rfl hN2.2.2.2.1 ?_
      refine r_iload_n (d := mX0_become) (pc := 17) (i := 2) (v := (j : Int)) dX0_become_17 rfl rfl ?_
      refine r_ialds (d := mX0_become) (pc := 18) (a := c2) (x := (I c2 (j : Int))) dX0_become_18 hN2.2.1 (by omega) (by omega) (by simp [mUp, cpy, fset, hch, Ne.symm hch, n1, n2, n3, n4]) ?_
      refine r_iasts (d := mX0_become) (pc := 19) (a := c) (lay0, mUp (cpy (cpy I c j (I c2)) h j (I h2)) c (j : Int) (I c2 (j : Int)), P) dX0_become_19 hN.2.1 (by omega) (by omega) rfl ?_
      refine r_aload_n (d := mX0_become) (pc := 20) (i := 0) (v := a) dX0_become_20 rfl rfl ?_
      refine r_getRs (d := mX0_become) (pc := 21) (a := a) (kd := 0) (j := 1) (x := h) dX0_become_21 flRX0_15 hN.1 (by decide) (by decide) rfl hN.2.2.2.2 ?_
      refine r_iload_n (d := mX0_become) (pc := 24) (i := 2) (v := (j : Int)) dX0_become_24 rfl rfl ?_
      refine r_aload_n (d := mX0_become) (pc := 25) (i := 1) (v := a2) dX0_become_25 rfl rfl ?_
      refine r_getRs (d := mX0_become) (pc := 26) (a := a2) (kd := 0) (j := 1) (x := h2) dX0_become_26 flRX0_15 hN2.1 (by decide) (by decide) rfl hN2.2.2.2.2 ?_
      refine r_iload_n (d := mX0_become) (pc := 29) (i := 2) (v := (j : Int)) dX0_become_29 rfl rfl ?_
      refine r_ialds (d := mX0_become) (pc := 30) (a := h2) (x := (I h2 (j : Int))) dX0_become_30 hN2.2.2.1 (by omega) (by omega) (by simp [mUp, cpy, fset, hch, Ne.symm hch, n1, n2, n3, n4]) ?_
      refine r_iasts (d := mX0_become) (pc := 31) (a := h) (lay0, mUp (mUp (cpy (cpy I c j (I c2)) h j (I h2)) c (j : Int) (I c2 (j : Int))) h (j : Int) (I h2 (j : Int)), P) dX0_become_31 hN.2.2.1 (by omega) (by omega) rfl ?_
      refine r_iinc (d := mX0_become) (pc := 32) (i := 2) (v := (j : Int)) (y := ((j + 1 : Nat) : Int)) (lv' := [(0, .inr (some a)), (1, .inr (some a2)), (2, .inl ((j + 1 : Nat) : Int))]) dX0_become_32 rfl (by decide) rfl (by omega) rfl ?_
      refine r_goto (d := mX0_become) (pc := 35) (tgt := 2) dX0_become_35 (by decide) ?_
      exact wpE (by simp) rfl (by rw [cpy2_s I hch j (I c2) (I h2)]) (ih2 (by omega) (by omega))
  exact wpE (by simp) rfl (by rw [cpy_0, cpy_0]) (L2 0 (by omega))
set_option maxRecDepth 20000 in
set_option maxHeartbeats 4000000 in
theorem Fn_X4_become (k : Nat) (I : mIt) (P : mPt) (a v kn us : Nat) (hV : isVs P a v kn us) (d1 : v ≠ kn) (d2 : v ≠ us) (d3 : kn ≠ us) (a2 v2 kn2 us2 : Nat) (hV2 : isVs P a2 v2 kn2 us2) (n1 : v2 ≠ v ∧ v2 ≠ kn ∧ v2 ≠ us) (n2 : kn2 ≠ v ∧ kn2 ≠ kn ∧ kn2 ≠ us) (n3 : us2 ≠ v ∧ us2 ≠ kn ∧ us2 ≠ us) : WP (k + 0) mX4_become none (0, 0) (Rt none (lay0, cpy (cpy (cpy I v 7 (I v2)) kn 7 (I kn2)) us 7 (I us2), P)) 0 [(0, .inr (some a)), (1, .inr (some a2))] [] (lay0, I, P) := by
  refine r_iconst (d := mX4_become) (pc := 0) (n := 0) dX4_become_0 ?_
  refine r_istore_n (d := mX4_become) (pc := 1) (i := 2) (lv' := [(0, .inr (some a)), (1, .inr (some a2)), (2, .inl 0)]) dX4_become_1 rfl (by decide) rfl rfl ?_
  have L2 : ∀ j : Nat, j ≤ 7 → WP (k + 0) mX4_become none (0, 0) (Rt none (lay0, cpy (cpy (cpy I v 7 (I v2)) kn 7 (I kn2)) us 7 (I us2), P)) 2 [(0, .inr (some a)), (1, .inr (some a2)), (2, .inl (j : Int))] [] (lay0, cpy (cpy (cpy I v j (I v2)) kn j (I kn2)) us j (I us2), P) := by
    refine loopN (7) _ (fun j ih2 hj2 => ?_)
    refine r_iload_n (d := mX4_become) (pc := 2) (i := 2) (v := (j : Int)) dX4_become_2 rfl rfl ?_
    refine r_bipush (d := mX4_become) (pc := 3) (n := 7) dX4_become_3 ?_
    refine r_icmp_ge (d := mX4_become) (pc := 5) (tgt := 50) dX4_become_5 (by decide) (fun h5 => ?_) (fun h5 => ?_)
    · exact r_ret (d := mX4_become) (pc := 50) dX4_become_50 rfl (rtV (by rw [show j = 7 by omega])) (by decide) (by decide)
    · refine r_aload_n (d := mX4_become) (pc := 8) (i := 0) (v := a) dX4_become_8 rfl rfl ?_
      refine r_getRs (d := mX4_become) (pc := 9) (a := a) (kd := 4) (j := 0) (x := v) dX4_become_9 flRX4_9 hV.1 (by decide) (by decide) rfl hV.2.2.2.2.1 ?_
      refine r_iload_n (d := mX4_become) (pc := 12) (i := 2) (v := (j : Int)) dX4_become_12 rfl rfl ?_
      refine r_aload_n (d := mX4_become) (pc := 13) (i := 1) (v := a2) dX4_become_13 rfl rfl ?_
      refine r_getRs (d := mX4_become) (pc := 14) (a := a2) (kd := 4) (j := 0) (x := v2) dX4_become_14 flRX4_9 hV2.1 (by decide) (by decide) rfl hV2.2.2.2.2.1 ?_
      refine r_iload_n (d := mX4_become) (pc := 17) (i := 2) (v := (j : Int)) dX4_become_17 rfl rfl ?_
      refine r_ialds (d := mX4_become) (pc := 18) (a := v2) (x := (I v2 (j : Int))) dX4_become_18 hV2.2.1 (by omega) (by omega) (by simp [mUp, cpy, fset, n1, n2, n3, d1, d2, d3]) ?_
      refine r_iasts (d := mX4_become) (pc := 19) (a := v) (lay0, mUp (cpy (cpy (cpy I v j (I v2)) kn j (I kn2)) us j (I us2)) v (j : Int) (I v2 (j : Int)), P) dX4_become_19 hV.2.1 (by omega) (by omega) rfl ?_
      refine r_aload_n (d := mX4_become) (pc := 20) (i := 0) (v := a) dX4_become_20 rfl rfl ?_
      refine r_getRs (d := mX4_become) (pc := 21) (a := a) (kd := 4) (j := 1) (x := kn) dX4_become_21 flRX4_15 hV.1 (by decide) (by decide) rfl hV.2.2.2.2.2.1 ?_
      refine r_iload_n (d := mX4_become) (pc := 24) (i := 2) (v := (j : Int)) dX4_become_24 rfl rfl ?_
      refine r_aload_n (d := mX4_become) (pc := 25) (i := 1) (v := a2) dX4_become_25 rfl rfl ?_
      refine r_getRs (d := mX4_become) (pc := 26) (a := a2) (kd := 4) (j := 1) (x := kn2) dX4_become_26 flRX4_15 hV2.1 (by decide) (by decide) rfl hV2.2.2.2.2.2.1 ?_
      refine r_iload_n (d := mX4_become) (pc := 29) (i := 2) (v := (j : Int)) dX4_become_29 rfl rfl ?_
      refine r_ialds (d := mX4_become) (pc := 30) (a := kn2) (x := (I kn2 (j : Int))) dX4_become_30 hV2.2.2.1 (by omega) (by omega) (by simp [mUp, cpy, fset, n1, n2, n3, d1, d2, d3]) ?_
      refine r_iasts (d := mX4_become) (pc := 31) (a := kn) (lay0, mUp (mUp (cpy (cpy (cpy I v j (I v2)) kn j (I kn2)) us j (I us2)) v (j : Int) (I v2 (j : Int))) kn (j : Int) (I kn2 (j : Int)), P) dX4_become_31 hV.2.2.1 (by omega) (by omega) rfl ?_
      refine r_aload_n (d := mX4_become) (pc := 32) (i := 0) (v := a) dX4_become_32 rfl rfl ?_
      refine r_getRs (d := mX4_become) (pc := 33) (a := a) (kd := 4) (j := 2) (x := us) dX4_become_33 flRX4_18 hV.1 (by decide) (by decide) rfl hV.2.2.2.2.2.2 ?_
      refine r_iload_n (d := mX4_become) (pc := 36) (i := 2) (v := (j : Int)) dX4_become_36 rfl rfl ?_
      refine r_aload_n (d := mX4_become) (pc := 37) (i := 1) (v := a2) dX4_become_37 rfl rfl ?_
      refine r_getRs (d := mX4_become) (pc := 38) (a := a2) (kd := 4) (j := 2) (x := us2) dX4_become_38 flRX4_18 hV2.1 (by decide) (by decide) rfl hV2.2.2.2.2.2.2 ?_
      refine r_iload_n (d := mX4_become) (pc := 41) (i := 2) (v := (j : Int)) dX4_become_41 rfl rfl ?_
      refine r_ialds (d := mX4_become) (pc := 42) (a := us2) (x := (I us2 (j : Int))) dX4_become_42 hV2.2.2.2.1 (by omega) (by omega) (by simp [mUp, cpy, fset, n1, n2, n3, d1, d2, d3]) ?_
      refine r_iasts (d := mX4_become) (pc := 43) (a := us) (lay0, mUp (mUp (mUp (cpy (cpy (cpy I v j (I v2)) kn j (I kn2)) us j (I us2)) v (j : Int) (I v2 (j : Int))) kn (j : Int) (I kn2 (j : Int))) us (j : Int) (I us2 (j : Int)), P) dX4_become_43 hV.2.2.2.1 (by omega) (by omega) rfl ?_
      refine r_iinc (d := mX4_become) (pc := 44) (i := 2) (v := (j : Int)) (y := ((j + 1 : Nat) : Int)) (lv' := [(0, .inr (some a)), (1, .inr (some a2)), (2, .inl ((j + 1 : Nat) : Int))]) dX4_become_44 rfl (by decide) rfl (by omega) rfl ?_
      refine r_goto (d := mX4_become) (pc := 47) (tgt := 2) dX4_become_47 (by decide) ?_
      exact wpE (by simp) rfl (by rw [cpy3_s I d1 d2 d3 j (I v2) (I kn2) (I us2)]) (ih2 (by omega) (by omega))
  exact wpE (by simp) rfl (by rw [cpy_0, cpy_0, cpy_0]) (L2 0 (by omega))
set_option maxRecDepth 20000 in
set_option maxHeartbeats 4000000 in
theorem Fn_X4_place (k : Nat) (I : mIt) (P : mPt) (a v kn us : Nat) (hV : isVs P a v kn us) (ch nv nk use : Int) : WP (k + 0) mX4_place none (0, 0) (Rt none (lay0, vPlace I v kn us ch nv nk use, P)) 0 [(0, .inr (some a)), (1, .inl ch), (2, .inl nv), (3, .inl nk), (4, .inl use)] [] (lay0, I, P) := by
  refine r_iload_n (d := mX4_place) (pc := 0) (i := 1) (v := ch) dX4_place_0 rfl rfl ?_
  refine r_if_lt (d := mX4_place) (pc := 1) (tgt := 32) dX4_place_1 (by decide) (fun h1 => ?_) (fun h1 => ?_)
  · exact r_ret (d := mX4_place) (pc := 32) dX4_place_32 rfl (rtV (by unfold vPlace; first | rw [if_pos (by omega)] | rw [if_neg (by omega)])) (by decide) (by decide)
  · refine r_iload_n (d := mX4_place) (pc := 4) (i := 1) (v := ch) dX4_place_4 rfl rfl ?_
    refine r_bipush (d := mX4_place) (pc := 5) (n := 7) dX4_place_5 ?_
    refine r_icmp_ge (d := mX4_place) (pc := 7) (tgt := 32) dX4_place_7 (by decide) (fun h7 => ?_) (fun h7 => ?_)
    · exact r_ret (d := mX4_place) (pc := 32) dX4_place_32 rfl (rtV (by unfold vPlace; first | rw [if_pos (by omega)] | rw [if_neg (by omega)])) (by decide) (by decide)
    · refine r_aload_n (d := mX4_place) (pc := 10) (i := 0) (v := a) dX4_place_10 rfl rfl ?_
      refine r_getRs (d := mX4_place) (pc := 11) (a := a) (kd := 4) (j := 0) (x := v) dX4_place_11 flRX4_9 hV.1 (by decide) (by decide) rfl hV.2.2.2.2.1 ?_
      refine r_iload_n (d := mX4_place) (pc := 14) (i := 1) (v := ch) dX4_place_14 rfl rfl ?_
      refine r_iload_n (d := mX4_place) (pc := 15) (i := 2) (v := nv) dX4_place_15 rfl rfl ?_
      refine r_iasts (d := mX4_place) (pc := 16) (a := v) (lay0, mUp I v ch nv, P) dX4_place_16 hV.2.1 (by omega) (by omega) rfl ?_
      refine r_aload_n (d := mX4_place) (pc := 17) (i := 0) (v := a) dX4_place_17 rfl rfl ?_
      refine r_getRs (d := mX4_place) (pc := 18) (a := a) (kd := 4) (j := 1) (x := kn) dX4_place_18 flRX4_15 hV.1 (by decide) (by decide) rfl hV.2.2.2.2.2.1 ?_
      refine r_iload_n (d := mX4_place) (pc := 21) (i := 1) (v := ch) dX4_place_21 rfl rfl ?_
      refine r_iload_n (d := mX4_place) (pc := 22) (i := 3) (v := nk) dX4_place_22 rfl rfl ?_
      refine r_iasts (d := mX4_place) (pc := 23) (a := kn) (lay0, mUp (mUp I v ch nv) kn ch nk, P) dX4_place_23 hV.2.2.1 (by omega) (by omega) rfl ?_
      refine r_aload_n (d := mX4_place) (pc := 24) (i := 0) (v := a) dX4_place_24 rfl rfl ?_
      refine r_getRs (d := mX4_place) (pc := 25) (a := a) (kd := 4) (j := 2) (x := us) dX4_place_25 flRX4_18 hV.1 (by decide) (by decide) rfl hV.2.2.2.2.2.2 ?_
      refine r_iload_n (d := mX4_place) (pc := 28) (i := 1) (v := ch) dX4_place_28 rfl rfl ?_
      refine r_iload (d := mX4_place) (pc := 29) (i := 4) (v := use) dX4_place_29 rfl ?_
      refine r_iasts (d := mX4_place) (pc := 31) (a := us) (lay0, mUp (mUp (mUp I v ch nv) kn ch nk) us ch use, P) dX4_place_31 hV.2.2.2.1 (by omega) (by omega) rfl ?_
      exact r_ret (d := mX4_place) (pc := 32) dX4_place_32 rfl (rtV (by unfold vPlace; first | rw [if_pos (by omega)] | rw [if_neg (by omega)])) (by decide) (by decide)
set_option maxRecDepth 20000 in
set_option maxHeartbeats 4000000 in
theorem Fn_X4_use (k : Nat) (I : mIt) (P : mPt) (a v kn us : Nat) (hV : isVs P a v kn us) (ch use : Int) : WP (k + 0) mX4_use none (0, 0) (Rt none (lay0, vUse I us ch use, P)) 0 [(0, .inr (some a)), (1, .inl ch), (2, .inl use)] [] (lay0, I, P) := by
  refine r_iload_n (d := mX4_use) (pc := 0) (i := 1) (v := ch) dX4_use_0 rfl rfl ?_
  refine r_if_lt (d := mX4_use) (pc := 1) (tgt := 17) dX4_use_1 (by decide) (fun h1 => ?_) (fun h1 => ?_)
  · exact r_ret (d := mX4_use) (pc := 17) dX4_use_17 rfl (rtV (by unfold vUse; first | rw [if_pos (by omega)] | rw [if_neg (by omega)])) (by decide) (by decide)
  · refine r_iload_n (d := mX4_use) (pc := 4) (i := 1) (v := ch) dX4_use_4 rfl rfl ?_
    refine r_bipush (d := mX4_use) (pc := 5) (n := 7) dX4_use_5 ?_
    refine r_icmp_ge (d := mX4_use) (pc := 7) (tgt := 17) dX4_use_7 (by decide) (fun h7 => ?_) (fun h7 => ?_)
    · exact r_ret (d := mX4_use) (pc := 17) dX4_use_17 rfl (rtV (by unfold vUse; first | rw [if_pos (by omega)] | rw [if_neg (by omega)])) (by decide) (by decide)
    · refine r_aload_n (d := mX4_use) (pc := 10) (i := 0) (v := a) dX4_use_10 rfl rfl ?_
      refine r_getRs (d := mX4_use) (pc := 11) (a := a) (kd := 4) (j := 2) (x := us) dX4_use_11 flRX4_18 hV.1 (by decide) (by decide) rfl hV.2.2.2.2.2.2 ?_
      refine r_iload_n (d := mX4_use) (pc := 14) (i := 1) (v := ch) dX4_use_14 rfl rfl ?_
      refine r_iload_n (d := mX4_use) (pc := 15) (i := 2) (v := use) dX4_use_15 rfl rfl ?_
      refine r_iasts (d := mX4_use) (pc := 16) (a := us) (lay0, mUp I us ch use, P) dX4_use_16 hV.2.2.2.1 (by omega) (by omega) rfl ?_
      exact r_ret (d := mX4_use) (pc := 17) dX4_use_17 rfl (rtV (by unfold vUse; first | rw [if_pos (by omega)] | rw [if_neg (by omega)])) (by decide) (by decide)
set_option maxRecDepth 20000 in
set_option maxHeartbeats 4000000 in
theorem Fn_X4_setKnownTime (k : Nat) (I : mIt) (P : mPt) (a v kn us : Nat) (hV : isVs P a v kn us) (ch tm : Int) : WP (k + 0) mX4_setKnownTime none (0, 0) (Rt none (lay0, vUse I kn ch tm, P)) 0 [(0, .inr (some a)), (1, .inl ch), (2, .inl tm)] [] (lay0, I, P) := by
  refine r_iload_n (d := mX4_setKnownTime) (pc := 0) (i := 1) (v := ch) dX4_setKnownTime_0 rfl rfl ?_
  refine r_if_lt (d := mX4_setKnownTime) (pc := 1) (tgt := 17) dX4_setKnownTime_1 (by decide) (fun h1 => ?_) (fun h1 => ?_)
  · exact r_ret (d := mX4_setKnownTime) (pc := 17) dX4_setKnownTime_17 rfl (rtV (by unfold vUse; first | rw [if_pos (by omega)] | rw [if_neg (by omega)])) (by decide) (by decide)
  · refine r_iload_n (d := mX4_setKnownTime) (pc := 4) (i := 1) (v := ch) dX4_setKnownTime_4 rfl rfl ?_
    refine r_bipush (d := mX4_setKnownTime) (pc := 5) (n := 7) dX4_setKnownTime_5 ?_
    refine r_icmp_ge (d := mX4_setKnownTime) (pc := 7) (tgt := 17) dX4_setKnownTime_7 (by decide) (fun h7 => ?_) (fun h7 => ?_)
    · exact r_ret (d := mX4_setKnownTime) (pc := 17) dX4_setKnownTime_17 rfl (rtV (by unfold vUse; first | rw [if_pos (by omega)] | rw [if_neg (by omega)])) (by decide) (by decide)
    · refine r_aload_n (d := mX4_setKnownTime) (pc := 10) (i := 0) (v := a) dX4_setKnownTime_10 rfl rfl ?_
      refine r_getRs (d := mX4_setKnownTime) (pc := 11) (a := a) (kd := 4) (j := 1) (x := kn) dX4_setKnownTime_11 flRX4_15 hV.1 (by decide) (by decide) rfl hV.2.2.2.2.2.1 ?_
      refine r_iload_n (d := mX4_setKnownTime) (pc := 14) (i := 1) (v := ch) dX4_setKnownTime_14 rfl rfl ?_
      refine r_iload_n (d := mX4_setKnownTime) (pc := 15) (i := 2) (v := tm) dX4_setKnownTime_15 rfl rfl ?_
      refine r_iasts (d := mX4_setKnownTime) (pc := 16) (a := kn) (lay0, mUp I kn ch tm, P) dX4_setKnownTime_16 hV.2.2.1 (by omega) (by omega) rfl ?_
      exact r_ret (d := mX4_setKnownTime) (pc := 17) dX4_setKnownTime_17 rfl (rtV (by unfold vUse; first | rw [if_pos (by omega)] | rw [if_neg (by omega)])) (by decide) (by decide)
set_option maxRecDepth 20000 in
set_option maxHeartbeats 4000000 in
theorem Fn_X4_valueOn (k : Nat) (I : mIt) (P : mPt) (a v kn us : Nat) (hV : isVs P a v kn us) (ch : Int) : WP (k + 0) mX4_valueOn none (0, 0) (Rt (some (.inl (vOn (I v) ch))) (lay0, I, P)) 0 [(0, .inr (some a)), (1, .inl ch)] [] (lay0, I, P) := by
  refine r_iload_n (d := mX4_valueOn) (pc := 0) (i := 1) (v := ch) dX4_valueOn_0 rfl rfl ?_
  refine r_if_lt (d := mX4_valueOn) (pc := 1) (tgt := 19) dX4_valueOn_1 (by decide) (fun h1 => ?_) (fun h1 => ?_)
  · refine r_iconst (d := mX4_valueOn) (pc := 19) (n := 0) dX4_valueOn_19 ?_
    exact r_iret (d := mX4_valueOn) (pc := 20) dX4_valueOn_20 rfl (rtI (by unfold vOn; first | rw [if_pos (by omega)] | rw [if_neg (by omega)]) (by rfl)) (by decide) (by decide)
  · refine r_iload_n (d := mX4_valueOn) (pc := 4) (i := 1) (v := ch) dX4_valueOn_4 rfl rfl ?_
    refine r_bipush (d := mX4_valueOn) (pc := 5) (n := 7) dX4_valueOn_5 ?_
    refine r_icmp_ge (d := mX4_valueOn) (pc := 7) (tgt := 19) dX4_valueOn_7 (by decide) (fun h7 => ?_) (fun h7 => ?_)
    · refine r_iconst (d := mX4_valueOn) (pc := 19) (n := 0) dX4_valueOn_19 ?_
      exact r_iret (d := mX4_valueOn) (pc := 20) dX4_valueOn_20 rfl (rtI (by unfold vOn; first | rw [if_pos (by omega)] | rw [if_neg (by omega)]) (by rfl)) (by decide) (by decide)
    · refine r_aload_n (d := mX4_valueOn) (pc := 10) (i := 0) (v := a) dX4_valueOn_10 rfl rfl ?_
      refine r_getRs (d := mX4_valueOn) (pc := 11) (a := a) (kd := 4) (j := 0) (x := v) dX4_valueOn_11 flRX4_9 hV.1 (by decide) (by decide) rfl hV.2.2.2.2.1 ?_
      refine r_iload_n (d := mX4_valueOn) (pc := 14) (i := 1) (v := ch) dX4_valueOn_14 rfl rfl ?_
      refine r_ialds (d := mX4_valueOn) (pc := 15) (a := v) (x := (I v ch)) dX4_valueOn_15 hV.2.1 (by omega) (by omega) (rfl) ?_
      refine r_goto (d := mX4_valueOn) (pc := 16) (tgt := 20) dX4_valueOn_16 (by decide) ?_
      exact r_iret (d := mX4_valueOn) (pc := 20) dX4_valueOn_20 rfl (rtI (by unfold vOn; first | rw [if_pos (by omega)] | rw [if_neg (by omega)]) (by rfl)) (by decide) (by decide)
set_option maxRecDepth 20000 in
set_option maxHeartbeats 4000000 in
theorem Fn_X4_knownTimeOf (k : Nat) (I : mIt) (P : mPt) (a v kn us : Nat) (hV : isVs P a v kn us) (ch : Int) : WP (k + 0) mX4_knownTimeOf none (0, 0) (Rt (some (.inl (kOf (I kn) ch))) (lay0, I, P)) 0 [(0, .inr (some a)), (1, .inl ch)] [] (lay0, I, P) := by
  refine r_iload_n (d := mX4_knownTimeOf) (pc := 0) (i := 1) (v := ch) dX4_knownTimeOf_0 rfl rfl ?_
  refine r_if_lt (d := mX4_knownTimeOf) (pc := 1) (tgt := 19) dX4_knownTimeOf_1 (by decide) (fun h1 => ?_) (fun h1 => ?_)
  · refine r_ldc (d := mX4_knownTimeOf) (pc := 19) (n := 1000000) ctRX4_21 dX4_knownTimeOf_19 ?_
    exact r_iret (d := mX4_knownTimeOf) (pc := 21) dX4_knownTimeOf_21 rfl (rtI (by unfold kOf; first | rw [if_pos (by omega)] | rw [if_neg (by omega)]) (by rfl)) (by decide) (by decide)
  · refine r_iload_n (d := mX4_knownTimeOf) (pc := 4) (i := 1) (v := ch) dX4_knownTimeOf_4 rfl rfl ?_
    refine r_bipush (d := mX4_knownTimeOf) (pc := 5) (n := 7) dX4_knownTimeOf_5 ?_
    refine r_icmp_ge (d := mX4_knownTimeOf) (pc := 7) (tgt := 19) dX4_knownTimeOf_7 (by decide) (fun h7 => ?_) (fun h7 => ?_)
    · refine r_ldc (d := mX4_knownTimeOf) (pc := 19) (n := 1000000) ctRX4_21 dX4_knownTimeOf_19 ?_
      exact r_iret (d := mX4_knownTimeOf) (pc := 21) dX4_knownTimeOf_21 rfl (rtI (by unfold kOf; first | rw [if_pos (by omega)] | rw [if_neg (by omega)]) (by rfl)) (by decide) (by decide)
    · refine r_aload_n (d := mX4_knownTimeOf) (pc := 10) (i := 0) (v := a) dX4_knownTimeOf_10 rfl rfl ?_
      refine r_getRs (d := mX4_knownTimeOf) (pc := 11) (a := a) (kd := 4) (j := 1) (x := kn) dX4_knownTimeOf_11 flRX4_15 hV.1 (by decide) (by decide) rfl hV.2.2.2.2.2.1 ?_
      refine r_iload_n (d := mX4_knownTimeOf) (pc := 14) (i := 1) (v := ch) dX4_knownTimeOf_14 rfl rfl ?_
      refine r_ialds (d := mX4_knownTimeOf) (pc := 15) (a := kn) (x := (I kn ch)) dX4_knownTimeOf_15 hV.2.2.1 (by omega) (by omega) (rfl) ?_
      refine r_goto (d := mX4_knownTimeOf) (pc := 16) (tgt := 21) dX4_knownTimeOf_16 (by decide) ?_
      exact r_iret (d := mX4_knownTimeOf) (pc := 21) dX4_knownTimeOf_21 rfl (rtI (by unfold kOf; first | rw [if_pos (by omega)] | rw [if_neg (by omega)]) (by rfl)) (by decide) (by decide)
set_option maxRecDepth 20000 in
set_option maxHeartbeats 4000000 in
theorem Fn_X1_isOne (k : Nat) (I : mIt) (P : mPt) (a w c f g m : Nat) (hO : isOr P a w c f g m) (ix : Int) : WP (k + 0) mX1_isOne none (0, 0) (Rt (some (.inl (bI (0 ≤ ix ∧ ix < I a 0 ∧ ix < 6)))) (lay0, I, P)) 0 [(0, .inr (some a)), (1, .inl ix)] [] (lay0, I, P) := by
  refine r_iload_n (d := mX1_isOne) (pc := 0) (i := 1) (v := ix) dX1_isOne_0 rfl rfl ?_
  refine r_if_lt (d := mX1_isOne) (pc := 1) (tgt := 22) dX1_isOne_1 (by decide) (fun h1 => ?_) (fun h1 => ?_)
  · refine r_iconst (d := mX1_isOne) (pc := 22) (n := 0) dX1_isOne_22 ?_
    exact r_zret (d := mX1_isOne) (pc := 23) dX1_isOne_23 rfl (Or.inl rfl) (rtI (by first | exact (bI_t (by omega)).symm | exact (bI_f (by omega)).symm) (by rfl)) (by decide) (by decide)
  · refine r_iload_n (d := mX1_isOne) (pc := 4) (i := 1) (v := ix) dX1_isOne_4 rfl rfl ?_
    refine r_aload_n (d := mX1_isOne) (pc := 5) (i := 0) (v := a) dX1_isOne_5 rfl rfl ?_
    refine r_getIs (d := mX1_isOne) (pc := 6) (a := a) (kd := 1) (j := 0) (x := (I a 0)) dX1_isOne_6 flRX1_9 hO.1 (by decide) (by decide) rfl (rfl) ?_
    refine r_icmp_ge (d := mX1_isOne) (pc := 9) (tgt := 22) dX1_isOne_9 (by decide) (fun h9 => ?_) (fun h9 => ?_)
    · refine r_iconst (d := mX1_isOne) (pc := 22) (n := 0) dX1_isOne_22 ?_
      exact r_zret (d := mX1_isOne) (pc := 23) dX1_isOne_23 rfl (Or.inl rfl) (rtI (by first | exact (bI_t (by omega)).symm | exact (bI_f (by omega)).symm) (by rfl)) (by decide) (by decide)
    · refine r_iload_n (d := mX1_isOne) (pc := 12) (i := 1) (v := ix) dX1_isOne_12 rfl rfl ?_
      refine r_bipush (d := mX1_isOne) (pc := 13) (n := 6) dX1_isOne_13 ?_
      refine r_icmp_ge (d := mX1_isOne) (pc := 15) (tgt := 22) dX1_isOne_15 (by decide) (fun h15 => ?_) (fun h15 => ?_)
      · refine r_iconst (d := mX1_isOne) (pc := 22) (n := 0) dX1_isOne_22 ?_
        exact r_zret (d := mX1_isOne) (pc := 23) dX1_isOne_23 rfl (Or.inl rfl) (rtI (by first | exact (bI_t (by omega)).symm | exact (bI_f (by omega)).symm) (by rfl)) (by decide) (by decide)
      · refine r_iconst (d := mX1_isOne) (pc := 18) (n := 1) dX1_isOne_18 ?_
        refine r_goto (d := mX1_isOne) (pc := 19) (tgt := 23) dX1_isOne_19 (by decide) ?_
        exact r_zret (d := mX1_isOne) (pc := 23) dX1_isOne_23 rfl (Or.inr rfl) (rtI (by first | exact (bI_t (by omega)).symm | exact (bI_f (by omega)).symm) (by rfl)) (by decide) (by decide)
set_option maxRecDepth 20000 in
set_option maxHeartbeats 4000000 in
theorem Fn_X1_add (k : Nat) (I : mIt) (P : mPt) (a w c f g m : Nat) (hO : isOr P a w c f g m) (n0 : a ≠ w ∧ a ≠ c ∧ a ≠ f ∧ a ≠ g ∧ a ≠ m) (n1 : w ≠ c ∧ w ≠ f ∧ w ≠ g ∧ w ≠ m) (n2 : c ≠ f ∧ c ≠ g ∧ c ≠ m) (n3 : f ≠ g ∧ f ≠ m) (n4 : g ≠ m) (kd nc r1 r2 mk : Int) : WP (k + 0) mX1_add none (0, 0) (Rt none (lay0, oAdd I a w c f g m kd nc r1 r2 mk, P)) 0 [(0, .inr (some a)), (1, .inl kd), (2, .inl nc), (3, .inl r1), (4, .inl r2), (5, .inl mk)] [] (lay0, I, P) := by
  refine r_aload_n (d := mX1_add) (pc := 0) (i := 0) (v := a) dX1_add_0 rfl rfl ?_
  refine r_getIs (d := mX1_add) (pc := 1) (a := a) (kd := 1) (j := 0) (x := (I a 0)) dX1_add_1 flRX1_9 hO.1 (by decide) (by decide) rfl (rfl) ?_
  refine r_if_lt (d := mX1_add) (pc := 4) (tgt := 78) dX1_add_4 (by decide) (fun h4 => ?_) (fun h4 => ?_)
  · exact r_ret (d := mX1_add) (pc := 78) dX1_add_78 rfl (rtV (by unfold oAdd; first | rw [if_pos (by omega)] | rw [if_neg (by omega)])) (by decide) (by decide)
  · refine r_aload_n (d := mX1_add) (pc := 7) (i := 0) (v := a) dX1_add_7 rfl rfl ?_
    refine r_getIs (d := mX1_add) (pc := 8) (a := a) (kd := 1) (j := 0) (x := (I a 0)) dX1_add_8 flRX1_9 hO.1 (by decide) (by decide) rfl (rfl) ?_
    refine r_bipush (d := mX1_add) (pc := 11) (n := 6) dX1_add_11 ?_
    refine r_icmp_ge (d := mX1_add) (pc := 13) (tgt := 78) dX1_add_13 (by decide) (fun h13 => ?_) (fun h13 => ?_)
    · exact r_ret (d := mX1_add) (pc := 78) dX1_add_78 rfl (rtV (by unfold oAdd; first | rw [if_pos (by omega)] | rw [if_neg (by omega)])) (by decide) (by decide)
    · refine r_aload_n (d := mX1_add) (pc := 16) (i := 0) (v := a) dX1_add_16 rfl rfl ?_
      refine r_getRs (d := mX1_add) (pc := 17) (a := a) (kd := 1) (j := 1) (x := w) dX1_add_17 flRX1_15 hO.1 (by decide) (by decide) rfl hO.2.2.2.2.2.2.1 ?_
      refine r_aload_n (d := mX1_add) (pc := 20) (i := 0) (v := a) dX1_add_20 rfl rfl ?_
      refine r_getIs (d := mX1_add) (pc := 21) (a := a) (kd := 1) (j := 0) (x := (I a 0)) dX1_add_21 flRX1_9 hO.1 (by decide) (by decide) rfl (rfl) ?_
      refine r_iload_n (d := mX1_add) (pc := 24) (i := 1) (v := kd) dX1_add_24 rfl rfl ?_
      refine r_iasts (d := mX1_add) (pc := 25) (a := w) (lay0, mUp I w (I a 0) kd, P) dX1_add_25 hO.2.1 (by omega) (by omega) rfl ?_
      refine r_aload_n (d := mX1_add) (pc := 26) (i := 0) (v := a) dX1_add_26 rfl rfl ?_
      refine r_getRs (d := mX1_add) (pc := 27) (a := a) (kd := 1) (j := 2) (x := c) dX1_add_27 flRX1_19 hO.1 (by decide) (by decide) rfl hO.2.2.2.2.2.2.2.1 ?_
      refine r_aload_n (d := mX1_add) (pc := 30) (i := 0) (v := a) dX1_add_30 rfl rfl ?_
      refine r_getIs (d := mX1_add) (pc := 31) (a := a) (kd := 1) (j := 0) (x := (I a 0)) dX1_add_31 flRX1_9 hO.1 (by decide) (by decide) rfl (by simp [mUp, cpy, fset, n0, n1, n2, n3, n4, Ne.symm n0.1, Ne.symm n0.2.1, Ne.symm n0.2.2.1, Ne.symm n0.2.2.2.1, Ne.symm n0.2.2.2.2, Ne.symm n1.1, Ne.symm n1.2.1, Ne.symm n1.2.2.1, Ne.symm n1.2.2.2, Ne.symm n2.1, Ne.symm n2.2.1, Ne.symm n2.2.2, Ne.symm n3.1, Ne.symm n3.2, Ne.symm n4]) ?_
      refine r_iload_n (d := mX1_add) (pc := 34) (i := 2) (v := nc) dX1_add_34 rfl rfl ?_
      refine r_iasts (d := mX1_add) (pc := 35) (a := c) (lay0, mUp (mUp I w (I a 0) kd) c (I a 0) nc, P) dX1_add_35 hO.2.2.1 (by omega) (by omega) rfl ?_
      refine r_aload_n (d := mX1_add) (pc := 36) (i := 0) (v := a) dX1_add_36 rfl rfl ?_
      refine r_getRs (d := mX1_add) (pc := 37) (a := a) (kd := 1) (j := 3) (x := f) dX1_add_37 flRX1_22 hO.1 (by decide) (by decide) rfl hO.2.2.2.2.2.2.2.2.1 ?_
      refine r_aload_n (d := mX1_add) (pc := 40) (i := 0) (v := a) dX1_add_40 rfl rfl ?_
      refine r_getIs (d := mX1_add) (pc := 41) (a := a) (kd := 1) (j := 0) (x := (I a 0)) dX1_add_41 flRX1_9 hO.1 (by decide) (by decide) rfl (by simp [mUp, cpy, fset, n0, n1, n2, n3, n4, Ne.symm n0.1, Ne.symm n0.2.1, Ne.symm n0.2.2.1, Ne.symm n0.2.2.2.1, Ne.symm n0.2.2.2.2, Ne.symm n1.1, Ne.symm n1.2.1, Ne.symm n1.2.2.1, Ne.symm n1.2.2.2, Ne.symm n2.1, Ne.symm n2.2.1, Ne.symm n2.2.2, Ne.symm n3.1, Ne.symm n3.2, Ne.symm n4]) ?_
      refine r_iload_n (d := mX1_add) (pc := 44) (i := 3) (v := r1) dX1_add_44 rfl rfl ?_
      refine r_iasts (d := mX1_add) (pc := 45) (a := f) (lay0, mUp (mUp (mUp I w (I a 0) kd) c (I a 0) nc) f (I a 0) r1, P) dX1_add_45 hO.2.2.2.1 (by omega) (by omega) rfl ?_
      refine r_aload_n (d := mX1_add) (pc := 46) (i := 0) (v := a) dX1_add_46 rfl rfl ?_
      refine r_getRs (d := mX1_add) (pc := 47) (a := a) (kd := 1) (j := 4) (x := g) dX1_add_47 flRX1_25 hO.1 (by decide) (by decide) rfl hO.2.2.2.2.2.2.2.2.2.1 ?_
      refine r_aload_n (d := mX1_add) (pc := 50) (i := 0) (v := a) dX1_add_50 rfl rfl ?_
      refine r_getIs (d := mX1_add) (pc := 51) (a := a) (kd := 1) (j := 0) (x := (I a 0)) dX1_add_51 flRX1_9 hO.1 (by decide) (by decide) rfl (by simp [mUp, cpy, fset, n0, n1, n2, n3, n4, Ne.symm n0.1, Ne.symm n0.2.1, Ne.symm n0.2.2.1, Ne.symm n0.2.2.2.1, Ne.symm n0.2.2.2.2, Ne.symm n1.1, Ne.symm n1.2.1, Ne.symm n1.2.2.1, Ne.symm n1.2.2.2, Ne.symm n2.1, Ne.symm n2.2.1, Ne.symm n2.2.2, Ne.symm n3.1, Ne.symm n3.2, Ne.symm n4]) ?_
      refine r_iload (d := mX1_add) (pc := 54) (i := 4) (v := r2) dX1_add_54 rfl ?_
      refine r_iasts (d := mX1_add) (pc := 56) (a := g) (lay0, mUp (mUp (mUp (mUp I w (I a 0) kd) c (I a 0) nc) f (I a 0) r1) g (I a 0) r2, P) dX1_add_56 hO.2.2.2.2.1 (by omega) (by omega) rfl ?_
      refine r_aload_n (d := mX1_add) (pc := 57) (i := 0) (v := a) dX1_add_57 rfl rfl ?_
      refine r_getRs (d := mX1_add) (pc := 58) (a := a) (kd := 1) (j := 5) (x := m) dX1_add_58 flRX1_28 hO.1 (by decide) (by decide) rfl hO.2.2.2.2.2.2.2.2.2.2 ?_
      refine r_aload_n (d := mX1_add) (pc := 61) (i := 0) (v := a) dX1_add_61 rfl rfl ?_
      refine r_getIs (d := mX1_add) (pc := 62) (a := a) (kd := 1) (j := 0) (x := (I a 0)) dX1_add_62 flRX1_9 hO.1 (by decide) (by decide) rfl (by simp [mUp, cpy, fset, n0, n1, n2, n3, n4, Ne.symm n0.1, Ne.symm n0.2.1, Ne.symm n0.2.2.1, Ne.symm n0.2.2.2.1, Ne.symm n0.2.2.2.2, Ne.symm n1.1, Ne.symm n1.2.1, Ne.symm n1.2.2.1, Ne.symm n1.2.2.2, Ne.symm n2.1, Ne.symm n2.2.1, Ne.symm n2.2.2, Ne.symm n3.1, Ne.symm n3.2, Ne.symm n4]) ?_
      refine r_iload (d := mX1_add) (pc := 65) (i := 5) (v := mk) dX1_add_65 rfl ?_
      refine r_iasts (d := mX1_add) (pc := 67) (a := m) (lay0, mUp (mUp (mUp (mUp (mUp I w (I a 0) kd) c (I a 0) nc) f (I a 0) r1) g (I a 0) r2) m (I a 0) mk, P) dX1_add_67 hO.2.2.2.2.2.1 (by omega) (by omega) rfl ?_
      refine r_aload_n (d := mX1_add) (pc := 68) (i := 0) (v := a) dX1_add_68 rfl rfl ?_
      refine r_dup (d := mX1_add) (pc := 69) dX1_add_69 ?_
      refine r_getIs (d := mX1_add) (pc := 70) (a := a) (kd := 1) (j := 0) (x := (I a 0)) dX1_add_70 flRX1_9 hO.1 (by decide) (by decide) rfl (by simp [mUp, cpy, fset, n0, n1, n2, n3, n4, Ne.symm n0.1, Ne.symm n0.2.1, Ne.symm n0.2.2.1, Ne.symm n0.2.2.2.1, Ne.symm n0.2.2.2.2, Ne.symm n1.1, Ne.symm n1.2.1, Ne.symm n1.2.2.1, Ne.symm n1.2.2.2, Ne.symm n2.1, Ne.symm n2.2.1, Ne.symm n2.2.2, Ne.symm n3.1, Ne.symm n3.2, Ne.symm n4]) ?_
      refine r_iconst (d := mX1_add) (pc := 73) (n := 1) dX1_add_73 ?_
      refine r_iadd (d := mX1_add) (pc := 74) dX1_add_74 ?_
      refine r_putIs (d := mX1_add) (pc := 75) (a := a) (kd := 1) (j := 0) (lay0, mUp (mUp (mUp (mUp (mUp (mUp I w (I a 0) kd) c (I a 0) nc) f (I a 0) r1) g (I a 0) r2) m (I a 0) mk) a 0 ((I a 0) + 1), P) dX1_add_75 flRX1_9 hO.1 (by decide) (by decide) rfl rfl (Or.inl rfl) rfl ?_
      exact r_ret (d := mX1_add) (pc := 78) dX1_add_78 rfl (rtV (by unfold oAdd; first | rw [if_pos (by omega)] | rw [if_neg (by omega)])) (by decide) (by decide)
set_option maxRecDepth 20000 in
set_option maxHeartbeats 4000000 in
theorem Fn_X1_move (k : Nat) (I : mIt) (P : mPt) (a w c f g m : Nat) (hO : isOr P a w c f g m) (n0 : a ≠ w ∧ a ≠ c ∧ a ≠ f ∧ a ≠ g ∧ a ≠ m) (n1 : w ≠ c ∧ w ≠ f ∧ w ≠ g ∧ w ≠ m) (n2 : c ≠ f ∧ c ≠ g ∧ c ≠ m) (n3 : f ≠ g ∧ f ≠ m) (n4 : g ≠ m) (x y : Int) : WP (k + 0) mX1_move none (0, 0) (Rt none (lay0, oMove I w c f g m x y, P)) 0 [(0, .inr (some a)), (1, .inl x), (2, .inl y)] [] (lay0, I, P) := by
  refine r_iload_n (d := mX1_move) (pc := 0) (i := 1) (v := x) dX1_move_0 rfl rfl ?_
  refine r_if_lt (d := mX1_move) (pc := 1) (tgt := 79) dX1_move_1 (by decide) (fun h1 => ?_) (fun h1 => ?_)
  · exact r_ret (d := mX1_move) (pc := 79) dX1_move_79 rfl (rtV (by unfold oMove; first | rw [if_pos (by omega)] | rw [if_neg (by omega)])) (by decide) (by decide)
  · refine r_iload_n (d := mX1_move) (pc := 4) (i := 1) (v := x) dX1_move_4 rfl rfl ?_
    refine r_bipush (d := mX1_move) (pc := 5) (n := 6) dX1_move_5 ?_
    refine r_icmp_ge (d := mX1_move) (pc := 7) (tgt := 79) dX1_move_7 (by decide) (fun h7 => ?_) (fun h7 => ?_)
    · exact r_ret (d := mX1_move) (pc := 79) dX1_move_79 rfl (rtV (by unfold oMove; first | rw [if_pos (by omega)] | rw [if_neg (by omega)])) (by decide) (by decide)
    · refine r_iload_n (d := mX1_move) (pc := 10) (i := 2) (v := y) dX1_move_10 rfl rfl ?_
      refine r_if_lt (d := mX1_move) (pc := 11) (tgt := 79) dX1_move_11 (by decide) (fun h11 => ?_) (fun h11 => ?_)
      · exact r_ret (d := mX1_move) (pc := 79) dX1_move_79 rfl (rtV (by unfold oMove; first | rw [if_pos (by omega)] | rw [if_neg (by omega)])) (by decide) (by decide)
      · refine r_iload_n (d := mX1_move) (pc := 14) (i := 2) (v := y) dX1_move_14 rfl rfl ?_
        refine r_iload_n (d := mX1_move) (pc := 15) (i := 1) (v := x) dX1_move_15 rfl rfl ?_
        refine r_icmp_ge (d := mX1_move) (pc := 16) (tgt := 79) dX1_move_16 (by decide) (fun h16 => ?_) (fun h16 => ?_)
        · exact r_ret (d := mX1_move) (pc := 79) dX1_move_79 rfl (rtV (by unfold oMove; first | rw [if_pos (by omega)] | rw [if_neg (by omega)])) (by decide) (by decide)
        · refine r_aload_n (d := mX1_move) (pc := 19) (i := 0) (v := a) dX1_move_19 rfl rfl ?_
          refine r_getRs (d := mX1_move) (pc := 20) (a := a) (kd := 1) (j := 1) (x := w) dX1_move_20 flRX1_15 hO.1 (by decide) (by decide) rfl hO.2.2.2.2.2.2.1 ?_
          refine r_iload_n (d := mX1_move) (pc := 23) (i := 2) (v := y) dX1_move_23 rfl rfl ?_
          refine r_aload_n (d := mX1_move) (pc := 24) (i := 0) (v := a) dX1_move_24 rfl rfl ?_
          refine r_getRs (d := mX1_move) (pc := 25) (a := a) (kd := 1) (j := 1) (x := w) dX1_move_25 flRX1_15 hO.1 (by decide) (by decide) rfl hO.2.2.2.2.2.2.1 ?_
          refine r_iload_n (d := mX1_move) (pc := 28) (i := 1) (v := x) dX1_move_28 rfl rfl ?_
          refine r_ialds (d := mX1_move) (pc := 29) (a := w) (x := (I w x)) dX1_move_29 hO.2.1 (by omega) (by omega) (rfl) ?_
          refine r_iasts (d := mX1_move) (pc := 30) (a := w) (lay0, mUp I w y (I w x), P) dX1_move_30 hO.2.1 (by omega) (by omega) rfl ?_
          refine r_aload_n (d := mX1_move) (pc := 31) (i := 0) (v := a) dX1_move_31 rfl rfl ?_
          refine r_getRs (d := mX1_move) (pc := 32) (a := a) (kd := 1) (j := 2) (x := c) dX1_move_32 flRX1_19 hO.1 (by decide) (by decide) rfl hO.2.2.2.2.2.2.2.1 ?_
          refine r_iload_n (d := mX1_move) (pc := 35) (i := 2) (v := y) dX1_move_35 rfl rfl ?_
          refine r_aload_n (d := mX1_move) (pc := 36) (i := 0) (v := a) dX1_move_36 rfl rfl ?_
          refine r_getRs (d := mX1_move) (pc := 37) (a := a) (kd := 1) (j := 2) (x := c) dX1_move_37 flRX1_19 hO.1 (by decide) (by decide) rfl hO.2.2.2.2.2.2.2.1 ?_
          refine r_iload_n (d := mX1_move) (pc := 40) (i := 1) (v := x) dX1_move_40 rfl rfl ?_
          refine r_ialds (d := mX1_move) (pc := 41) (a := c) (x := (I c x)) dX1_move_41 hO.2.2.1 (by omega) (by omega) (by simp [mUp, cpy, fset, n0, n1, n2, n3, n4, Ne.symm n0.1, Ne.symm n0.2.1, Ne.symm n0.2.2.1, Ne.symm n0.2.2.2.1, Ne.symm n0.2.2.2.2, Ne.symm n1.1, Ne.symm n1.2.1, Ne.symm n1.2.2.1, Ne.symm n1.2.2.2, Ne.symm n2.1, Ne.symm n2.2.1, Ne.symm n2.2.2, Ne.symm n3.1, Ne.symm n3.2, Ne.symm n4]) ?_
          refine r_iasts (d := mX1_move) (pc := 42) (a := c) (lay0, mUp (mUp I w y (I w x)) c y (I c x), P) dX1_move_42 hO.2.2.1 (by omega) (by omega) rfl ?_
          refine r_aload_n (d := mX1_move) (pc := 43) (i := 0) (v := a) dX1_move_43 rfl rfl ?_
          refine r_getRs (d := mX1_move) (pc := 44) (a := a) (kd := 1) (j := 3) (x := f) dX1_move_44 flRX1_22 hO.1 (by decide) (by decide) rfl hO.2.2.2.2.2.2.2.2.1 ?_
          refine r_iload_n (d := mX1_move) (pc := 47) (i := 2) (v := y) dX1_move_47 rfl rfl ?_
          refine r_aload_n (d := mX1_move) (pc := 48) (i := 0) (v := a) dX1_move_48 rfl rfl ?_
          refine r_getRs (d := mX1_move) (pc := 49) (a := a) (kd := 1) (j := 3) (x := f) dX1_move_49 flRX1_22 hO.1 (by decide) (by decide) rfl hO.2.2.2.2.2.2.2.2.1 ?_
          refine r_iload_n (d := mX1_move) (pc := 52) (i := 1) (v := x) dX1_move_52 rfl rfl ?_
          refine r_ialds (d := mX1_move) (pc := 53) (a := f) (x := (I f x)) dX1_move_53 hO.2.2.2.1 (by omega) (by omega) (by simp [mUp, cpy, fset, n0, n1, n2, n3, n4, Ne.symm n0.1, Ne.symm n0.2.1, Ne.symm n0.2.2.1, Ne.symm n0.2.2.2.1, Ne.symm n0.2.2.2.2, Ne.symm n1.1, Ne.symm n1.2.1, Ne.symm n1.2.2.1, Ne.symm n1.2.2.2, Ne.symm n2.1, Ne.symm n2.2.1, Ne.symm n2.2.2, Ne.symm n3.1, Ne.symm n3.2, Ne.symm n4]) ?_
          refine r_iasts (d := mX1_move) (pc := 54) (a := f) (lay0, mUp (mUp (mUp I w y (I w x)) c y (I c x)) f y (I f x), P) dX1_move_54 hO.2.2.2.1 (by omega) (by omega) rfl ?_
          refine r_aload_n (d := mX1_move) (pc := 55) (i := 0) (v := a) dX1_move_55 rfl rfl ?_
          refine r_getRs (d := mX1_move) (pc := 56) (a := a) (kd := 1) (j := 4) (x := g) dX1_move_56 flRX1_25 hO.1 (by decide) (by decide) rfl hO.2.2.2.2.2.2.2.2.2.1 ?_
          refine r_iload_n (d := mX1_move) (pc := 59) (i := 2) (v := y) dX1_move_59 rfl rfl ?_
          refine r_aload_n (d := mX1_move) (pc := 60) (i := 0) (v := a) dX1_move_60 rfl rfl ?_
          refine r_getRs (d := mX1_move) (pc := 61) (a := a) (kd := 1) (j := 4) (x := g) dX1_move_61 flRX1_25 hO.1 (by decide) (by decide) rfl hO.2.2.2.2.2.2.2.2.2.1 ?_
          refine r_iload_n (d := mX1_move) (pc := 64) (i := 1) (v := x) dX1_move_64 rfl rfl ?_
          refine r_ialds (d := mX1_move) (pc := 65) (a := g) (x := (I g x)) dX1_move_65 hO.2.2.2.2.1 (by omega) (by omega) (by simp [mUp, cpy, fset, n0, n1, n2, n3, n4, Ne.symm n0.1, Ne.symm n0.2.1, Ne.symm n0.2.2.1, Ne.symm n0.2.2.2.1, Ne.symm n0.2.2.2.2, Ne.symm n1.1, Ne.symm n1.2.1, Ne.symm n1.2.2.1, Ne.symm n1.2.2.2, Ne.symm n2.1, Ne.symm n2.2.1, Ne.symm n2.2.2, Ne.symm n3.1, Ne.symm n3.2, Ne.symm n4]) ?_
          refine r_iasts (d := mX1_move) (pc := 66) (a := g) (lay0, mUp (mUp (mUp (mUp I w y (I w x)) c y (I c x)) f y (I f x)) g y (I g x), P) dX1_move_66 hO.2.2.2.2.1 (by omega) (by omega) rfl ?_
          refine r_aload_n (d := mX1_move) (pc := 67) (i := 0) (v := a) dX1_move_67 rfl rfl ?_
          refine r_getRs (d := mX1_move) (pc := 68) (a := a) (kd := 1) (j := 5) (x := m) dX1_move_68 flRX1_28 hO.1 (by decide) (by decide) rfl hO.2.2.2.2.2.2.2.2.2.2 ?_
          refine r_iload_n (d := mX1_move) (pc := 71) (i := 2) (v := y) dX1_move_71 rfl rfl ?_
          refine r_aload_n (d := mX1_move) (pc := 72) (i := 0) (v := a) dX1_move_72 rfl rfl ?_
          refine r_getRs (d := mX1_move) (pc := 73) (a := a) (kd := 1) (j := 5) (x := m) dX1_move_73 flRX1_28 hO.1 (by decide) (by decide) rfl hO.2.2.2.2.2.2.2.2.2.2 ?_
          refine r_iload_n (d := mX1_move) (pc := 76) (i := 1) (v := x) dX1_move_76 rfl rfl ?_
          refine r_ialds (d := mX1_move) (pc := 77) (a := m) (x := (I m x)) dX1_move_77 hO.2.2.2.2.2.1 (by omega) (by omega) (by simp [mUp, cpy, fset, n0, n1, n2, n3, n4, Ne.symm n0.1, Ne.symm n0.2.1, Ne.symm n0.2.2.1, Ne.symm n0.2.2.2.1, Ne.symm n0.2.2.2.2, Ne.symm n1.1, Ne.symm n1.2.1, Ne.symm n1.2.2.1, Ne.symm n1.2.2.2, Ne.symm n2.1, Ne.symm n2.2.1, Ne.symm n2.2.2, Ne.symm n3.1, Ne.symm n3.2, Ne.symm n4]) ?_
          refine r_iasts (d := mX1_move) (pc := 78) (a := m) (lay0, mUp (mUp (mUp (mUp (mUp I w y (I w x)) c y (I c x)) f y (I f x)) g y (I g x)) m y (I m x), P) dX1_move_78 hO.2.2.2.2.2.1 (by omega) (by omega) rfl ?_
          exact r_ret (d := mX1_move) (pc := 79) dX1_move_79 rfl (rtV (by unfold oMove; first | rw [if_pos (by omega)] | rw [if_neg (by omega)])) (by decide) (by decide)
set_option maxRecDepth 20000 in
set_option maxHeartbeats 4000000 in
theorem Fn_X1_readersOf (k : Nat) (I : mIt) (P : mPt) (a w c f g m : Nat) (hO : isOr P a w c f g m) (n : Nat) (hn : I a 0 = n) (hn6 : n ≤ 6) (x : Int) : WP (k + 0) mX1_readersOf none (0, 0) (Rt (some (.inl (rdrs (I f) (I g) x n))) (lay0, I, P)) 0 [(0, .inr (some a)), (1, .inl x)] [] (lay0, I, P) := by
  refine r_iconst (d := mX1_readersOf) (pc := 0) (n := 0) dX1_readersOf_0 ?_
  refine r_istore_n (d := mX1_readersOf) (pc := 1) (i := 2) (lv' := [(0, .inr (some a)), (1, .inl x), (2, .inl 0)]) dX1_readersOf_1 rfl (by decide) rfl rfl ?_
  refine r_iconst (d := mX1_readersOf) (pc := 2) (n := 0) dX1_readersOf_2 ?_
  refine r_istore_n (d := mX1_readersOf) (pc := 3) (i := 3) (lv' := [(0, .inr (some a)), (1, .inl x), (2, .inl 0), (3, .inl 0)]) dX1_readersOf_3 rfl (by decide) rfl rfl ?_
  have L4 : ∀ j : Nat, j ≤ n → WP (k + 0) mX1_readersOf none (0, 0) (Rt (some (.inl (rdrs (I f) (I g) x n))) (lay0, I, P)) 4 [(0, .inr (some a)), (1, .inl x), (2, .inl (rdrs (I f) (I g) x j)), (3, .inl (j : Int))] [] (lay0, I, P) := by
    refine loopN (n) _ (fun j ih4 hj4 => ?_)
    have hr4 := rdrs_le (I f) (I g) x j
    refine r_iload_n (d := mX1_readersOf) (pc := 4) (i := 3) (v := (j : Int)) dX1_readersOf_4 rfl rfl ?_
    refine r_aload_n (d := mX1_readersOf) (pc := 5) (i := 0) (v := a) dX1_readersOf_5 rfl rfl ?_
    refine r_getIs (d := mX1_readersOf) (pc := 6) (a := a) (kd := 1) (j := 0) (x := (I a 0)) dX1_readersOf_6 flRX1_9 hO.1 (by decide) (by decide) rfl (rfl) ?_
    refine r_icmp_ge (d := mX1_readersOf) (pc := 9) (tgt := 47) dX1_readersOf_9 (by decide) (fun h9 => ?_) (fun h9 => ?_)
    · refine r_iload_n (d := mX1_readersOf) (pc := 47) (i := 2) (v := rdrs (I f) (I g) x j) dX1_readersOf_47 rfl rfl ?_
      exact r_iret (d := mX1_readersOf) (pc := 48) dX1_readersOf_48 rfl (rtI (by rw [show j = n by omega]) (by rfl)) (by decide) (by decide)
    · refine r_iload_n (d := mX1_readersOf) (pc := 12) (i := 3) (v := (j : Int)) dX1_readersOf_12 rfl rfl ?_
      refine r_bipush (d := mX1_readersOf) (pc := 13) (n := 6) dX1_readersOf_13 ?_
      refine r_icmp_ge (d := mX1_readersOf) (pc := 15) (tgt := 47) dX1_readersOf_15 (by decide) (fun h15 => ?_) (fun h15 => ?_)
      · refine r_iload_n (d := mX1_readersOf) (pc := 47) (i := 2) (v := rdrs (I f) (I g) x j) dX1_readersOf_47 rfl rfl ?_
        exact r_iret (d := mX1_readersOf) (pc := 48) dX1_readersOf_48 rfl (rtI (by rw [show j = n by omega]) (by rfl)) (by decide) (by decide)
      · refine r_aload_n (d := mX1_readersOf) (pc := 18) (i := 0) (v := a) dX1_readersOf_18 rfl rfl ?_
        refine r_getRs (d := mX1_readersOf) (pc := 19) (a := a) (kd := 1) (j := 3) (x := f) dX1_readersOf_19 flRX1_22 hO.1 (by decide) (by decide) rfl hO.2.2.2.2.2.2.2.2.1 ?_
        refine r_iload_n (d := mX1_readersOf) (pc := 22) (i := 3) (v := (j : Int)) dX1_readersOf_22 rfl rfl ?_
        refine r_ialds (d := mX1_readersOf) (pc := 23) (a := f) (x := (I f (j : Int))) dX1_readersOf_23 hO.2.2.2.1 (by omega) (by omega) (rfl) ?_
        refine r_iload_n (d := mX1_readersOf) (pc := 24) (i := 1) (v := x) dX1_readersOf_24 rfl rfl ?_
        refine r_icmp_eq (d := mX1_readersOf) (pc := 25) (tgt := 38) dX1_readersOf_25 (by decide) (fun h25 => ?_) (fun h25 => ?_)
        · refine r_iinc (d := mX1_readersOf) (pc := 38) (i := 2) (v := rdrs (I f) (I g) x j) (y := (rdrs (I f) (I g) x j + 1)) (lv' := [(0, .inr (some a)), (1, .inl x), (2, .inl (rdrs (I f) (I g) x j + 1)), (3, .inl (j : Int))]) dX1_readersOf_38 rfl (by decide) rfl rfl rfl ?_
          refine r_iinc (d := mX1_readersOf) (pc := 41) (i := 3) (v := (j : Int)) (y := ((j + 1 : Nat) : Int)) (lv' := [(0, .inr (some a)), (1, .inl x), (2, .inl (rdrs (I f) (I g) x j + 1)), (3, .inl ((j + 1 : Nat) : Int))]) dX1_readersOf_41 rfl (by decide) rfl (by omega) rfl ?_
          refine r_goto (d := mX1_readersOf) (pc := 44) (tgt := 4) dX1_readersOf_44 (by decide) ?_
          exact wpE (by simp [rdrs, *]) rfl (by rfl) (ih4 (by omega) (by omega))
        · refine r_aload_n (d := mX1_readersOf) (pc := 28) (i := 0) (v := a) dX1_readersOf_28 rfl rfl ?_
          refine r_getRs (d := mX1_readersOf) (pc := 29) (a := a) (kd := 1) (j := 4) (x := g) dX1_readersOf_29 flRX1_25 hO.1 (by decide) (by decide) rfl hO.2.2.2.2.2.2.2.2.2.1 ?_
          refine r_iload_n (d := mX1_readersOf) (pc := 32) (i := 3) (v := (j : Int)) dX1_readersOf_32 rfl rfl ?_
          refine r_ialds (d := mX1_readersOf) (pc := 33) (a := g) (x := (I g (j : Int))) dX1_readersOf_33 hO.2.2.2.2.1 (by omega) (by omega) (rfl) ?_
          refine r_iload_n (d := mX1_readersOf) (pc := 34) (i := 1) (v := x) dX1_readersOf_34 rfl rfl ?_
          refine r_icmp_ne (d := mX1_readersOf) (pc := 35) (tgt := 41) dX1_readersOf_35 (by decide) (fun h35 => ?_) (fun h35 => ?_)
          · refine r_iinc (d := mX1_readersOf) (pc := 41) (i := 3) (v := (j : Int)) (y := ((j + 1 : Nat) : Int)) (lv' := [(0, .inr (some a)), (1, .inl x), (2, .inl (rdrs (I f) (I g) x j)), (3, .inl ((j + 1 : Nat) : Int))]) dX1_readersOf_41 rfl (by decide) rfl (by omega) rfl ?_
            refine r_goto (d := mX1_readersOf) (pc := 44) (tgt := 4) dX1_readersOf_44 (by decide) ?_
            exact wpE (by simp [rdrs, *]) rfl (by rfl) (ih4 (by omega) (by omega))
          · refine r_iinc (d := mX1_readersOf) (pc := 38) (i := 2) (v := rdrs (I f) (I g) x j) (y := (rdrs (I f) (I g) x j + 1)) (lv' := [(0, .inr (some a)), (1, .inl x), (2, .inl (rdrs (I f) (I g) x j + 1)), (3, .inl (j : Int))]) dX1_readersOf_38 rfl (by decide) rfl rfl rfl ?_
            refine r_iinc (d := mX1_readersOf) (pc := 41) (i := 3) (v := (j : Int)) (y := ((j + 1 : Nat) : Int)) (lv' := [(0, .inr (some a)), (1, .inl x), (2, .inl (rdrs (I f) (I g) x j + 1)), (3, .inl ((j + 1 : Nat) : Int))]) dX1_readersOf_41 rfl (by decide) rfl (by omega) rfl ?_
            refine r_goto (d := mX1_readersOf) (pc := 44) (tgt := 4) dX1_readersOf_44 (by decide) ?_
            exact wpE (by simp [rdrs, *]) rfl (by rfl) (ih4 (by omega) (by omega))
  exact wpE (by simp [rdrs]) rfl (by rfl) (L4 0 (by omega))
set_option maxRecDepth 20000 in
set_option maxHeartbeats 4000000 in
theorem Fn_X1_makeFor (k : Nat) (I : mIt) (P : mPt) (a w c f g m : Nat) (hO : isOr P a w c f g m) (n : Nat) (hn : I a 0 = n) (hn6 : n ≤ 6) (x : Int) : WP (k + 0) mX1_makeFor none (0, 0) (Rt (some (.inl (bI (anyE (I c) x n = true)))) (lay0, I, P)) 0 [(0, .inr (some a)), (1, .inl x)] [] (lay0, I, P) := by
  refine r_iconst (d := mX1_makeFor) (pc := 0) (n := 0) dX1_makeFor_0 ?_
  refine r_istore_n (d := mX1_makeFor) (pc := 1) (i := 2) (lv' := [(0, .inr (some a)), (1, .inl x), (2, .inl 0)]) dX1_makeFor_1 rfl (by decide) rfl rfl ?_
  have L2 : ∀ j : Nat, j ≤ n → anyE (I c) x j = false → WP (k + 0) mX1_makeFor none (0, 0) (Rt (some (.inl (bI (anyE (I c) x n = true)))) (lay0, I, P)) 2 [(0, .inr (some a)), (1, .inl x), (2, .inl (j : Int))] [] (lay0, I, P) := by
    refine loopN (n) _ (fun j ih2 hj2 hy2 => ?_)
    refine r_iload_n (d := mX1_makeFor) (pc := 2) (i := 2) (v := (j : Int)) dX1_makeFor_2 rfl rfl ?_
    refine r_aload_n (d := mX1_makeFor) (pc := 3) (i := 0) (v := a) dX1_makeFor_3 rfl rfl ?_
    refine r_getIs (d := mX1_makeFor) (pc := 4) (a := a) (kd := 1) (j := 0) (x := (I a 0)) dX1_makeFor_4 flRX1_9 hO.1 (by decide) (by decide) rfl (rfl) ?_
    refine r_icmp_ge (d := mX1_makeFor) (pc := 7) (tgt := 34) dX1_makeFor_7 (by decide) (fun h7 => ?_) (fun h7 => ?_)
    · refine r_iconst (d := mX1_makeFor) (pc := 34) (n := 0) dX1_makeFor_34 ?_
      exact r_zret (d := mX1_makeFor) (pc := 35) dX1_makeFor_35 rfl (Or.inl rfl) (rtI (by rw [← show j = n by omega, hy2]; rfl) (by rfl)) (by decide) (by decide)
    · refine r_iload_n (d := mX1_makeFor) (pc := 10) (i := 2) (v := (j : Int)) dX1_makeFor_10 rfl rfl ?_
      refine r_bipush (d := mX1_makeFor) (pc := 11) (n := 6) dX1_makeFor_11 ?_
      refine r_icmp_ge (d := mX1_makeFor) (pc := 13) (tgt := 34) dX1_makeFor_13 (by decide) (fun h13 => ?_) (fun h13 => ?_)
      · refine r_iconst (d := mX1_makeFor) (pc := 34) (n := 0) dX1_makeFor_34 ?_
        exact r_zret (d := mX1_makeFor) (pc := 35) dX1_makeFor_35 rfl (Or.inl rfl) (rtI (by rw [← show j = n by omega, hy2]; rfl) (by rfl)) (by decide) (by decide)
      · refine r_aload_n (d := mX1_makeFor) (pc := 16) (i := 0) (v := a) dX1_makeFor_16 rfl rfl ?_
        refine r_getRs (d := mX1_makeFor) (pc := 17) (a := a) (kd := 1) (j := 2) (x := c) dX1_makeFor_17 flRX1_19 hO.1 (by decide) (by decide) rfl hO.2.2.2.2.2.2.2.1 ?_
        refine r_iload_n (d := mX1_makeFor) (pc := 20) (i := 2) (v := (j : Int)) dX1_makeFor_20 rfl rfl ?_
        refine r_ialds (d := mX1_makeFor) (pc := 21) (a := c) (x := (I c (j : Int))) dX1_makeFor_21 hO.2.2.1 (by omega) (by omega) (rfl) ?_
        refine r_iload_n (d := mX1_makeFor) (pc := 22) (i := 1) (v := x) dX1_makeFor_22 rfl rfl ?_
        refine r_icmp_ne (d := mX1_makeFor) (pc := 23) (tgt := 28) dX1_makeFor_23 (by decide) (fun h23 => ?_) (fun h23 => ?_)
        · refine r_iinc (d := mX1_makeFor) (pc := 28) (i := 2) (v := (j : Int)) (y := ((j + 1 : Nat) : Int)) (lv' := [(0, .inr (some a)), (1, .inl x), (2, .inl ((j + 1 : Nat) : Int))]) dX1_makeFor_28 rfl (by decide) rfl (by omega) rfl ?_
          refine r_goto (d := mX1_makeFor) (pc := 31) (tgt := 2) dX1_makeFor_31 (by decide) ?_
          exact wpE (by simp) rfl (by rfl) (ih2 (by omega) (by omega) (by simp [anyE, *]))
        · refine r_iconst (d := mX1_makeFor) (pc := 26) (n := 1) dX1_makeFor_26 ?_
          exact r_zret (d := mX1_makeFor) (pc := 27) dX1_makeFor_27 rfl (Or.inr rfl) (rtI (by exact (bI_t ((anyE_iff _ _ _).mpr ⟨j, by omega, h23⟩)).symm) (by rfl)) (by decide) (by decide)
  exact wpE (by simp) rfl (by rfl) (L2 0 (by omega) (by rfl))
set_option maxRecDepth 20000 in
set_option maxHeartbeats 4000000 in
theorem Fn_X1_forgetFirstMark (k : Nat) (I : mIt) (P : mPt) (a w c f g m : Nat) (hO : isOr P a w c f g m) (n : Nat) (hn : I a 0 = n) (hn6 : n ≤ 6) (ham : a ≠ m) : WP (k + 0) mX1_forgetFirstMark none (0, 0) (Rt none (lay0, cpy I m n (fun i => if 0 < I m i then I m i - 1 else I m i), P)) 0 [(0, .inr (some a))] [] (lay0, I, P) := by
  refine wpOk (fun hok => ?_)
  refine r_iconst (d := mX1_forgetFirstMark) (pc := 0) (n := 0) dX1_forgetFirstMark_0 ?_
  refine r_istore_n (d := mX1_forgetFirstMark) (pc := 1) (i := 1) (lv' := [(0, .inr (some a)), (1, .inl 0)]) dX1_forgetFirstMark_1 rfl (by decide) rfl rfl ?_
  have L2 : ∀ j : Nat, j ≤ n → WP (k + 0) mX1_forgetFirstMark none (0, 0) (Rt none (lay0, cpy I m n (fun i => if 0 < I m i then I m i - 1 else I m i), P)) 2 [(0, .inr (some a)), (1, .inl (j : Int))] [] (lay0, cpy I m j (fun i => if 0 < I m i then I m i - 1 else I m i), P) := by
    refine loopN (n) _ (fun j ih2 hj2 => ?_)
    refine r_iload_n (d := mX1_forgetFirstMark) (pc := 2) (i := 1) (v := (j : Int)) dX1_forgetFirstMark_2 rfl rfl ?_
    refine r_aload_n (d := mX1_forgetFirstMark) (pc := 3) (i := 0) (v := a) dX1_forgetFirstMark_3 rfl rfl ?_
    refine r_getIs (d := mX1_forgetFirstMark) (pc := 4) (a := a) (kd := 1) (j := 0) (x := (I a 0)) dX1_forgetFirstMark_4 flRX1_9 hO.1 (by decide) (by decide) rfl (by simp [mUp, cpy, fset, ham, Ne.symm ham]) ?_
    refine r_icmp_ge (d := mX1_forgetFirstMark) (pc := 7) (tgt := 41) dX1_forgetFirstMark_7 (by decide) (fun h7 => ?_) (fun h7 => ?_)
    · exact r_ret (d := mX1_forgetFirstMark) (pc := 41) dX1_forgetFirstMark_41 rfl (rtV (by rw [show j = n by omega])) (by decide) (by decide)
    · refine r_iload_n (d := mX1_forgetFirstMark) (pc := 10) (i := 1) (v := (j : Int)) dX1_forgetFirstMark_10 rfl rfl ?_
      refine r_bipush (d := mX1_forgetFirstMark) (pc := 11) (n := 6) dX1_forgetFirstMark_11 ?_
      refine r_icmp_ge (d := mX1_forgetFirstMark) (pc := 13) (tgt := 41) dX1_forgetFirstMark_13 (by decide) (fun h13 => ?_) (fun h13 => ?_)
      · exact r_ret (d := mX1_forgetFirstMark) (pc := 41) dX1_forgetFirstMark_41 rfl (rtV (by rw [show j = n by omega])) (by decide) (by decide)
      · refine r_aload_n (d := mX1_forgetFirstMark) (pc := 16) (i := 0) (v := a) dX1_forgetFirstMark_16 rfl rfl ?_
        refine r_getRs (d := mX1_forgetFirstMark) (pc := 17) (a := a) (kd := 1) (j := 5) (x := m) dX1_forgetFirstMark_17 flRX1_28 hO.1 (by decide) (by decide) rfl hO.2.2.2.2.2.2.2.2.2.2 ?_
        refine r_iload_n (d := mX1_forgetFirstMark) (pc := 20) (i := 1) (v := (j : Int)) dX1_forgetFirstMark_20 rfl rfl ?_
        refine r_ialds (d := mX1_forgetFirstMark) (pc := 21) (a := m) (x := (I m (j : Int))) dX1_forgetFirstMark_21 hO.2.2.2.2.2.1 (by omega) (by omega) (by simp [mUp, cpy, fset, ham, Ne.symm ham]) ?_
        refine r_if_le (d := mX1_forgetFirstMark) (pc := 22) (tgt := 35) dX1_forgetFirstMark_22 (by decide) (fun h22 => ?_) (fun h22 => ?_)
        · refine r_iinc (d := mX1_forgetFirstMark) (pc := 35) (i := 1) (v := (j : Int)) (y := ((j + 1 : Nat) : Int)) (lv' := [(0, .inr (some a)), (1, .inl ((j + 1 : Nat) : Int))]) dX1_forgetFirstMark_35 rfl (by decide) rfl (by omega) rfl ?_
          refine r_goto (d := mX1_forgetFirstMark) (pc := 38) (tgt := 2) dX1_forgetFirstMark_38 (by decide) ?_
          exact wpE (by simp) rfl (by first | (refine memE (cpy_s _ _ _ _ _ ?_); rw [if_pos (by omega)]; done) | (refine memE (cpy_skip _ ?_); rw [if_neg (by omega)]; done)) (ih2 (by omega) (by omega))
        · refine r_aload_n (d := mX1_forgetFirstMark) (pc := 25) (i := 0) (v := a) dX1_forgetFirstMark_25 rfl rfl ?_
          refine r_getRs (d := mX1_forgetFirstMark) (pc := 26) (a := a) (kd := 1) (j := 5) (x := m) dX1_forgetFirstMark_26 flRX1_28 hO.1 (by decide) (by decide) rfl hO.2.2.2.2.2.2.2.2.2.2 ?_
          refine r_iload_n (d := mX1_forgetFirstMark) (pc := 29) (i := 1) (v := (j : Int)) dX1_forgetFirstMark_29 rfl rfl ?_
          refine r_dup2 (d := mX1_forgetFirstMark) (pc := 30) dX1_forgetFirstMark_30 ?_
          refine r_ialds (d := mX1_forgetFirstMark) (pc := 31) (a := m) (x := (I m (j : Int))) dX1_forgetFirstMark_31 hO.2.2.2.2.2.1 (by omega) (by omega) (by simp [mUp, cpy, fset, ham, Ne.symm ham]) ?_
          refine r_iconst (d := mX1_forgetFirstMark) (pc := 32) (n := 1) dX1_forgetFirstMark_32 ?_
          refine r_isub (d := mX1_forgetFirstMark) (pc := 33) dX1_forgetFirstMark_33 ?_ (by have h9 : mI (I m j) := (hok m j).1; unfold mI at *; omega)
          refine r_iasts (d := mX1_forgetFirstMark) (pc := 34) (a := m) (lay0, mUp (cpy I m j (fun i => if 0 < I m i then I m i - 1 else I m i)) m (j : Int) ((I m (j : Int)) - 1), P) dX1_forgetFirstMark_34 hO.2.2.2.2.2.1 (by omega) (by omega) rfl ?_
          refine r_iinc (d := mX1_forgetFirstMark) (pc := 35) (i := 1) (v := (j : Int)) (y := ((j + 1 : Nat) : Int)) (lv' := [(0, .inr (some a)), (1, .inl ((j + 1 : Nat) : Int))]) dX1_forgetFirstMark_35 rfl (by decide) rfl (by omega) rfl ?_
          refine r_goto (d := mX1_forgetFirstMark) (pc := 38) (tgt := 2) dX1_forgetFirstMark_38 (by decide) ?_
          exact wpE (by simp) rfl (by first | (refine memE (cpy_s _ _ _ _ _ ?_); rw [if_pos (by omega)]; done) | (refine memE (cpy_skip _ ?_); rw [if_neg (by omega)]; done)) (ih2 (by omega) (by omega))
  exact wpE (by simp) rfl (by rw [cpy_0]) (L2 0 (by omega))
set_option maxRecDepth 20000 in
set_option maxHeartbeats 4000000 in
theorem Fn_X1_dropGivenAfter (k : Nat) (I : mIt) (P : mPt) (a w c f g m : Nat) (hO : isOr P a w c f g m) (n : Nat) (hn : I a 0 = n) (hn6 : n ≤ 6) (ham : a ≠ m) (x : Int) : WP (k + 0) mX1_dropGivenAfter none (0, 0) (Rt (some (.inl ((n : Int) - (dropF (I m) x n : Nat)))) (lay0, mUp I a 0 (dropF (I m) x n : Nat), P)) 0 [(0, .inr (some a)), (1, .inl x)] [] (lay0, I, P) := by
  refine r_aload_n (d := mX1_dropGivenAfter) (pc := 0) (i := 0) (v := a) dX1_dropGivenAfter_0 rfl rfl ?_
  refine r_getIs (d := mX1_dropGivenAfter) (pc := 1) (a := a) (kd := 1) (j := 0) (x := (I a 0)) dX1_dropGivenAfter_1 flRX1_9 hO.1 (by decide) (by decide) rfl (rfl) ?_
  refine r_istore_n (d := mX1_dropGivenAfter) (pc := 4) (i := 2) (lv' := [(0, .inr (some a)), (1, .inl x), (2, .inl (I a 0))]) dX1_dropGivenAfter_4 rfl (by decide) rfl rfl ?_
  have L5 : ∀ j : Nat, j ≤ n → dropF (I m) x j = dropF (I m) x n → WP (k + 0) mX1_dropGivenAfter none (0, 0) (Rt (some (.inl ((n : Int) - (dropF (I m) x n : Nat)))) (lay0, mUp I a 0 (dropF (I m) x n : Nat), P)) 5 [(0, .inr (some a)), (1, .inl x), (2, .inl (n : Int))] [] (lay0, mUp I a 0 (j : Int), P) := by
    refine loopD _ (fun j ih5 hj hd => ?_)
    refine r_aload_n (d := mX1_dropGivenAfter) (pc := 5) (i := 0) (v := a) dX1_dropGivenAfter_5 rfl rfl ?_
    refine r_getIs (d := mX1_dropGivenAfter) (pc := 6) (a := a) (kd := 1) (j := 0) (x := (j : Int)) dX1_dropGivenAfter_6 flRX1_9 hO.1 (by decide) (by decide) rfl (by simp [mUp, cpy, fset, ham, Ne.symm ham, mUp_mUp]) ?_
    refine r_if_le (d := mX1_dropGivenAfter) (pc := 9) (tgt := 49) dX1_dropGivenAfter_9 (by decide) (fun h9 => ?_) (fun h9 => ?_)
    · refine r_iload_n (d := mX1_dropGivenAfter) (pc := 49) (i := 2) (v := (n : Int)) dX1_dropGivenAfter_49 rfl rfl ?_
      refine r_aload_n (d := mX1_dropGivenAfter) (pc := 50) (i := 0) (v := a) dX1_dropGivenAfter_50 rfl rfl ?_
      refine r_getIs (d := mX1_dropGivenAfter) (pc := 51) (a := a) (kd := 1) (j := 0) (x := (j : Int)) dX1_dropGivenAfter_51 flRX1_9 hO.1 (by decide) (by decide) rfl (by simp [mUp, cpy, fset, ham, Ne.symm ham, mUp_mUp]) ?_
      refine r_isub (d := mX1_dropGivenAfter) (pc := 54) dX1_dropGivenAfter_54 ?_
      exact r_iret (d := mX1_dropGivenAfter) (pc := 55) dX1_dropGivenAfter_55 rfl (rtI (by rw [← hd, dropF_st (I m) x j (by omega)]) (by rw [← hd, dropF_st (I m) x j (by omega)])) (by decide) (by decide)
    · refine r_aload_n (d := mX1_dropGivenAfter) (pc := 12) (i := 0) (v := a) dX1_dropGivenAfter_12 rfl rfl ?_
      refine r_getIs (d := mX1_dropGivenAfter) (pc := 13) (a := a) (kd := 1) (j := 0) (x := (j : Int)) dX1_dropGivenAfter_13 flRX1_9 hO.1 (by decide) (by decide) rfl (by simp [mUp, cpy, fset, ham, Ne.symm ham, mUp_mUp]) ?_
      refine r_bipush (d := mX1_dropGivenAfter) (pc := 16) (n := 6) dX1_dropGivenAfter_16 ?_
      refine r_icmp_gt (d := mX1_dropGivenAfter) (pc := 18) (tgt := 49) dX1_dropGivenAfter_18 (by decide) (fun h18 => ?_) (fun h18 => ?_)
      · refine r_iload_n (d := mX1_dropGivenAfter) (pc := 49) (i := 2) (v := (n : Int)) dX1_dropGivenAfter_49 rfl rfl ?_
        refine r_aload_n (d := mX1_dropGivenAfter) (pc := 50) (i := 0) (v := a) dX1_dropGivenAfter_50 rfl rfl ?_
        refine r_getIs (d := mX1_dropGivenAfter) (pc := 51) (a := a) (kd := 1) (j := 0) (x := (j : Int)) dX1_dropGivenAfter_51 flRX1_9 hO.1 (by decide) (by decide) rfl (by simp [mUp, cpy, fset, ham, Ne.symm ham, mUp_mUp]) ?_
        refine r_isub (d := mX1_dropGivenAfter) (pc := 54) dX1_dropGivenAfter_54 ?_
        exact r_iret (d := mX1_dropGivenAfter) (pc := 55) dX1_dropGivenAfter_55 rfl (rtI (by rw [← hd, dropF_st (I m) x j (by omega)]) (by rw [← hd, dropF_st (I m) x j (by omega)])) (by decide) (by decide)
      · refine r_aload_n (d := mX1_dropGivenAfter) (pc := 21) (i := 0) (v := a) dX1_dropGivenAfter_21 rfl rfl ?_
        refine r_getRs (d := mX1_dropGivenAfter) (pc := 22) (a := a) (kd := 1) (j := 5) (x := m) dX1_dropGivenAfter_22 flRX1_28 hO.1 (by decide) (by decide) rfl hO.2.2.2.2.2.2.2.2.2.2 ?_
        refine r_aload_n (d := mX1_dropGivenAfter) (pc := 25) (i := 0) (v := a) dX1_dropGivenAfter_25 rfl rfl ?_
        refine r_getIs (d := mX1_dropGivenAfter) (pc := 26) (a := a) (kd := 1) (j := 0) (x := (j : Int)) dX1_dropGivenAfter_26 flRX1_9 hO.1 (by decide) (by decide) rfl (by simp [mUp, cpy, fset, ham, Ne.symm ham, mUp_mUp]) ?_
        refine r_iconst (d := mX1_dropGivenAfter) (pc := 29) (n := 1) dX1_dropGivenAfter_29 ?_
        refine r_isub (d := mX1_dropGivenAfter) (pc := 30) dX1_dropGivenAfter_30 ?_
        refine r_ialds (d := mX1_dropGivenAfter) (pc := 31) (a := m) (x := (I m ((j : Int) - 1))) dX1_dropGivenAfter_31 hO.2.2.2.2.2.1 (by omega) (by omega) (by simp [mUp, cpy, fset, ham, Ne.symm ham, mUp_mUp]) ?_
        refine r_iload_n (d := mX1_dropGivenAfter) (pc := 32) (i := 1) (v := x) dX1_dropGivenAfter_32 rfl rfl ?_
        refine r_icmp_le (d := mX1_dropGivenAfter) (pc := 33) (tgt := 49) dX1_dropGivenAfter_33 (by decide) (fun h33 => ?_) (fun h33 => ?_)
        · refine r_iload_n (d := mX1_dropGivenAfter) (pc := 49) (i := 2) (v := (n : Int)) dX1_dropGivenAfter_49 rfl rfl ?_
          refine r_aload_n (d := mX1_dropGivenAfter) (pc := 50) (i := 0) (v := a) dX1_dropGivenAfter_50 rfl rfl ?_
          refine r_getIs (d := mX1_dropGivenAfter) (pc := 51) (a := a) (kd := 1) (j := 0) (x := (j : Int)) dX1_dropGivenAfter_51 flRX1_9 hO.1 (by decide) (by decide) rfl (by simp [mUp, cpy, fset, ham, Ne.symm ham, mUp_mUp]) ?_
          refine r_isub (d := mX1_dropGivenAfter) (pc := 54) dX1_dropGivenAfter_54 ?_
          exact r_iret (d := mX1_dropGivenAfter) (pc := 55) dX1_dropGivenAfter_55 rfl (rtI (by rw [← hd, dropF_st (I m) x j (by omega)]) (by rw [← hd, dropF_st (I m) x j (by omega)])) (by decide) (by decide)
        · refine r_aload_n (d := mX1_dropGivenAfter) (pc := 36) (i := 0) (v := a) dX1_dropGivenAfter_36 rfl rfl ?_
          refine r_dup (d := mX1_dropGivenAfter) (pc := 37) dX1_dropGivenAfter_37 ?_
          refine r_getIs (d := mX1_dropGivenAfter) (pc := 38) (a := a) (kd := 1) (j := 0) (x := (j : Int)) dX1_dropGivenAfter_38 flRX1_9 hO.1 (by decide) (by decide) rfl (by simp [mUp, cpy, fset, ham, Ne.symm ham, mUp_mUp]) ?_
          refine r_iconst (d := mX1_dropGivenAfter) (pc := 41) (n := 1) dX1_dropGivenAfter_41 ?_
          refine r_isub (d := mX1_dropGivenAfter) (pc := 42) dX1_dropGivenAfter_42 ?_
          refine r_putIs (d := mX1_dropGivenAfter) (pc := 43) (a := a) (kd := 1) (j := 0) (lay0, mUp (mUp I a 0 (j : Int)) a 0 ((j : Int) - 1), P) dX1_dropGivenAfter_43 flRX1_9 hO.1 (by decide) (by decide) rfl rfl (Or.inl rfl) rfl ?_
          refine r_goto (d := mX1_dropGivenAfter) (pc := 46) (tgt := 5) dX1_dropGivenAfter_46 (by decide) ?_
          exact wpE (by rfl) rfl (by rw [mUp_mUp, show (((j - 1 : Nat) : Int)) = (j : Int) - 1 by omega]) (ih5 (j - 1) (by omega) (by omega) (by rw [← hd, show j = j - 1 + 1 by omega]; simp only [Nat.add_sub_cancel]; conv => rhs; unfold dropF; rw [if_pos (by rw [show (((j - 1 : Nat) : Int)) = (j : Int) - 1 by omega]; omega)]))
  exact wpE (by rw [hn]) rfl (by rw [mUp_self _ hn]) (L5 (n) (by omega) (by rfl))
set_option maxRecDepth 20000 in
set_option maxHeartbeats 4000000 in
theorem Fn_X1_become (k : Nat) (I : mIt) (P : mPt) (a w c f g m : Nat) (hO : isOr P a w c f g m) (n0 : a ≠ w ∧ a ≠ c ∧ a ≠ f ∧ a ≠ g ∧ a ≠ m) (n1 : w ≠ c ∧ w ≠ f ∧ w ≠ g ∧ w ≠ m) (n2 : c ≠ f ∧ c ≠ g ∧ c ≠ m) (n3 : f ≠ g ∧ f ≠ m) (n4 : g ≠ m) (a2 w2 c2 f2 g2 m2 : Nat) (hO2 : isOr P a2 w2 c2 f2 g2 m2) (q1 : w2 ≠ a ∧ w2 ≠ w ∧ w2 ≠ c ∧ w2 ≠ f ∧ w2 ≠ g ∧ w2 ≠ m) (q2 : c2 ≠ a ∧ c2 ≠ w ∧ c2 ≠ c ∧ c2 ≠ f ∧ c2 ≠ g ∧ c2 ≠ m) (q3 : f2 ≠ a ∧ f2 ≠ w ∧ f2 ≠ c ∧ f2 ≠ f ∧ f2 ≠ g ∧ f2 ≠ m) (q4 : g2 ≠ a ∧ g2 ≠ w ∧ g2 ≠ c ∧ g2 ≠ f ∧ g2 ≠ g ∧ g2 ≠ m) (q5 : m2 ≠ a ∧ m2 ≠ w ∧ m2 ≠ c ∧ m2 ≠ f ∧ m2 ≠ g ∧ m2 ≠ m) : WP (k + 0) mX1_become none (0, 0) (Rt none (lay0, cpy (cpy (cpy (cpy (cpy (mUp I a 0 (I a2 0)) w 6 (I w2)) c 6 (I c2)) f 6 (I f2)) g 6 (I g2)) m 6 (I m2), P)) 0 [(0, .inr (some a)), (1, .inr (some a2))] [] (lay0, I, P) := by
  refine r_aload_n (d := mX1_become) (pc := 0) (i := 0) (v := a) dX1_become_0 rfl rfl ?_
  refine r_aload_n (d := mX1_become) (pc := 1) (i := 1) (v := a2) dX1_become_1 rfl rfl ?_
  refine r_getIs (d := mX1_become) (pc := 2) (a := a2) (kd := 1) (j := 0) (x := (I a2 0)) dX1_become_2 flRX1_9 hO2.1 (by decide) (by decide) rfl (rfl) ?_
  refine r_putIs (d := mX1_become) (pc := 5) (a := a) (kd := 1) (j := 0) (lay0, mUp I a 0 (I a2 0), P) dX1_become_5 flRX1_9 hO.1 (by decide) (by decide) rfl rfl (Or.inl rfl) rfl ?_
  refine r_iconst (d := mX1_become) (pc := 8) (n := 0) dX1_become_8 ?_
  refine r_istore_n (d := mX1_become) (pc := 9) (i := 2) (lv' := [(0, .inr (some a)), (1, .inr (some a2)), (2, .inl 0)]) dX1_become_9 rfl (by decide) rfl rfl ?_
  have L10 : ∀ j : Nat, j ≤ 6 → WP (k + 0) mX1_become none (0, 0) (Rt none (lay0, cpy (cpy (cpy (cpy (cpy (mUp I a 0 (I a2 0)) w 6 (I w2)) c 6 (I c2)) f 6 (I f2)) g 6 (I g2)) m 6 (I m2), P)) 10 [(0, .inr (some a)), (1, .inr (some a2)), (2, .inl (j : Int))] [] (lay0, cpy (cpy (cpy (cpy (cpy (mUp I a 0 (I a2 0)) w j (I w2)) c j (I c2)) f j (I f2)) g j (I g2)) m j (I m2), P) := by
    refine loopN (6) _ (fun j ih10 hj10 => ?_)
    refine r_iload_n (d := mX1_become) (pc := 10) (i := 2) (v := (j : Int)) dX1_become_10 rfl rfl ?_
    refine r_bipush (d := mX1_become) (pc := 11) (n := 6) dX1_become_11 ?_
    refine r_icmp_ge (d := mX1_become) (pc := 13) (tgt := 82) dX1_become_13 (by decide) (fun h13 => ?_) (fun h13 => ?_)
    · exact r_ret (d := mX1_become) (pc := 82) dX1_become_82 rfl (rtV (by rw [show j = 6 by omega])) (by decide) (by decide)
    · refine r_aload_n (d := mX1_become) (pc := 16) (i := 0) (v := a) dX1_become_16 rfl rfl ?_
      refine r_getRs (d := mX1_become) (pc := 17) (a := a) (kd := 1) (j := 1) (x := w) dX1_become_17 flRX1_15 hO.1 (by decide) (by decide) rfl hO.2.2.2.2.2.2.1 ?_
      refine r_iload_n (d := mX1_become) (pc := 20) (i := 2) (v := (j : Int)) dX1_become_20 rfl rfl ?_
      refine r_aload_n (d := mX1_become) (pc := 21) (i := 1) (v := a2) dX1_become_21 rfl rfl ?_
      refine r_getRs (d := mX1_become) (pc := 22) (a := a2) (kd := 1) (j := 1) (x := w2) dX1_become_22 flRX1_15 hO2.1 (by decide) (by decide) rfl hO2.2.2.2.2.2.2.1 ?_
      refine r_iload_n (d := mX1_become) (pc := 25) (i := 2) (v := (j : Int)) dX1_become_25 rfl rfl ?_
      refine r_ialds (d := mX1_become) (pc := 26) (a := w2) (x := (I w2 (j : Int))) dX1_become_26 hO2.2.1 (by omega) (by omega) (by simp [mUp, cpy, fset, n0, n1, n2, n3, n4, Ne.symm n0.1, Ne.symm n0.2.1, Ne.symm n0.2.2.1, Ne.symm n0.2.2.2.1, Ne.symm n0.2.2.2.2, Ne.symm n1.1, Ne.symm n1.2.1, Ne.symm n1.2.2.1, Ne.symm n1.2.2.2, Ne.symm n2.1, Ne.symm n2.2.1, Ne.symm n2.2.2, Ne.symm n3.1, Ne.symm n3.2, Ne.symm n4, q1, q2, q3, q4, q5]) ?_
      refine r_iasts (d := mX1_become) (pc := 27) (a := w) (lay0, mUp (cpy (cpy (cpy (cpy (cpy (mUp I a 0 (I a2 0)) w j (I w2)) c j (I c2)) f j (I f2)) g j (I g2)) m j (I m2)) w (j : Int) (I w2 (j : Int)), P) dX1_become_27 hO.2.1 (by omega) (by omega) rfl ?_
      refine r_aload_n (d := mX1_become) (pc := 28) (i := 0) (v := a) dX1_become_28 rfl rfl ?_
      refine r_getRs (d := mX1_become) (pc := 29) (a := a) (kd := 1) (j := 2) (x := c) dX1_become_29 flRX1_19 hO.1 (by decide) (by decide) rfl hO.2.2.2.2.2.2.2.1 ?_
      refine r_iload_n (d := mX1_become) (pc := 32) (i := 2) (v := (j : Int)) dX1_become_32 rfl rfl ?_
      refine r_aload_n (d := mX1_become) (pc := 33) (i := 1) (v := a2) dX1_become_33 rfl rfl ?_
      refine r_getRs (d := mX1_become) (pc := 34) (a := a2) (kd := 1) (j := 2) (x := c2) dX1_become_34 flRX1_19 hO2.1 (by decide) (by decide) rfl hO2.2.2.2.2.2.2.2.1 ?_
      refine r_iload_n (d := mX1_become) (pc := 37) (i := 2) (v := (j : Int)) dX1_become_37 rfl rfl ?_
      refine r_ialds (d := mX1_become) (pc := 38) (a := c2) (x := (I c2 (j : Int))) dX1_become_38 hO2.2.2.1 (by omega) (by omega) (by simp [mUp, cpy, fset, n0, n1, n2, n3, n4, Ne.symm n0.1, Ne.symm n0.2.1, Ne.symm n0.2.2.1, Ne.symm n0.2.2.2.1, Ne.symm n0.2.2.2.2, Ne.symm n1.1, Ne.symm n1.2.1, Ne.symm n1.2.2.1, Ne.symm n1.2.2.2, Ne.symm n2.1, Ne.symm n2.2.1, Ne.symm n2.2.2, Ne.symm n3.1, Ne.symm n3.2, Ne.symm n4, q1, q2, q3, q4, q5]) ?_
      refine r_iasts (d := mX1_become) (pc := 39) (a := c) (lay0, mUp (mUp (cpy (cpy (cpy (cpy (cpy (mUp I a 0 (I a2 0)) w j (I w2)) c j (I c2)) f j (I f2)) g j (I g2)) m j (I m2)) w (j : Int) (I w2 (j : Int))) c (j : Int) (I c2 (j : Int)), P) dX1_become_39 hO.2.2.1 (by omega) (by omega) rfl ?_
      refine r_aload_n (d := mX1_become) (pc := 40) (i := 0) (v := a) dX1_become_40 rfl rfl ?_
      refine r_getRs (d := mX1_become) (pc := 41) (a := a) (kd := 1) (j := 3) (x := f) dX1_become_41 flRX1_22 hO.1 (by decide) (by decide) rfl hO.2.2.2.2.2.2.2.2.1 ?_
      refine r_iload_n (d := mX1_become) (pc := 44) (i := 2) (v := (j : Int)) dX1_become_44 rfl rfl ?_
      refine r_aload_n (d := mX1_become) (pc := 45) (i := 1) (v := a2) dX1_become_45 rfl rfl ?_
      refine r_getRs (d := mX1_become) (pc := 46) (a := a2) (kd := 1) (j := 3) (x := f2) dX1_become_46 flRX1_22 hO2.1 (by decide) (by decide) rfl hO2.2.2.2.2.2.2.2.2.1 ?_
      refine r_iload_n (d := mX1_become) (pc := 49) (i := 2) (v := (j : Int)) dX1_become_49 rfl rfl ?_
      refine r_ialds (d := mX1_become) (pc := 50) (a := f2) (x := (I f2 (j : Int))) dX1_become_50 hO2.2.2.2.1 (by omega) (by omega) (by simp [mUp, cpy, fset, n0, n1, n2, n3, n4, Ne.symm n0.1, Ne.symm n0.2.1, Ne.symm n0.2.2.1, Ne.symm n0.2.2.2.1, Ne.symm n0.2.2.2.2, Ne.symm n1.1, Ne.symm n1.2.1, Ne.symm n1.2.2.1, Ne.symm n1.2.2.2, Ne.symm n2.1, Ne.symm n2.2.1, Ne.symm n2.2.2, Ne.symm n3.1, Ne.symm n3.2, Ne.symm n4, q1, q2, q3, q4, q5]) ?_
      refine r_iasts (d := mX1_become) (pc := 51) (a := f) (lay0, mUp (mUp (mUp (cpy (cpy (cpy (cpy (cpy (mUp I a 0 (I a2 0)) w j (I w2)) c j (I c2)) f j (I f2)) g j (I g2)) m j (I m2)) w (j : Int) (I w2 (j : Int))) c (j : Int) (I c2 (j : Int))) f (j : Int) (I f2 (j : Int)), P) dX1_become_51 hO.2.2.2.1 (by omega) (by omega) rfl ?_
      refine r_aload_n (d := mX1_become) (pc := 52) (i := 0) (v := a) dX1_become_52 rfl rfl ?_
      refine r_getRs (d := mX1_become) (pc := 53) (a := a) (kd := 1) (j := 4) (x := g) dX1_become_53 flRX1_25 hO.1 (by decide) (by decide) rfl hO.2.2.2.2.2.2.2.2.2.1 ?_
      refine r_iload_n (d := mX1_become) (pc := 56) (i := 2) (v := (j : Int)) dX1_become_56 rfl rfl ?_
      refine r_aload_n (d := mX1_become) (pc := 57) (i := 1) (v := a2) dX1_become_57 rfl rfl ?_
      refine r_getRs (d := mX1_become) (pc := 58) (a := a2) (kd := 1) (j := 4) (x := g2) dX1_become_58 flRX1_25 hO2.1 (by decide) (by decide) rfl hO2.2.2.2.2.2.2.2.2.2.1 ?_
      refine r_iload_n (d := mX1_become) (pc := 61) (i := 2) (v := (j : Int)) dX1_become_61 rfl rfl ?_
      refine r_ialds (d := mX1_become) (pc := 62) (a := g2) (x := (I g2 (j : Int))) dX1_become_62 hO2.2.2.2.2.1 (by omega) (by omega) (by simp [mUp, cpy, fset, n0, n1, n2, n3, n4, Ne.symm n0.1, Ne.symm n0.2.1, Ne.symm n0.2.2.1, Ne.symm n0.2.2.2.1, Ne.symm n0.2.2.2.2, Ne.symm n1.1, Ne.symm n1.2.1, Ne.symm n1.2.2.1, Ne.symm n1.2.2.2, Ne.symm n2.1, Ne.symm n2.2.1, Ne.symm n2.2.2, Ne.symm n3.1, Ne.symm n3.2, Ne.symm n4, q1, q2, q3, q4, q5]) ?_
      refine r_iasts (d := mX1_become) (pc := 63) (a := g) (lay0, mUp (mUp (mUp (mUp (cpy (cpy (cpy (cpy (cpy (mUp I a 0 (I a2 0)) w j (I w2)) c j (I c2)) f j (I f2)) g j (I g2)) m j (I m2)) w (j : Int) (I w2 (j : Int))) c (j : Int) (I c2 (j : Int))) f (j : Int) (I f2 (j : Int))) g (j : Int) (I g2 (j : Int)), P) dX1_become_63 hO.2.2.2.2.1 (by omega) (by omega) rfl ?_
      refine r_aload_n (d := mX1_become) (pc := 64) (i := 0) (v := a) dX1_become_64 rfl rfl ?_
      refine r_getRs (d := mX1_become) (pc := 65) (a := a) (kd := 1) (j := 5) (x := m) dX1_become_65 flRX1_28 hO.1 (by decide) (by decide) rfl hO.2.2.2.2.2.2.2.2.2.2 ?_
      refine r_iload_n (d := mX1_become) (pc := 68) (i := 2) (v := (j : Int)) dX1_become_68 rfl rfl ?_
      refine r_aload_n (d := mX1_become) (pc := 69) (i := 1) (v := a2) dX1_become_69 rfl rfl ?_
      refine r_getRs (d := mX1_become) (pc := 70) (a := a2) (kd := 1) (j := 5) (x := m2) dX1_become_70 flRX1_28 hO2.1 (by decide) (by decide) rfl hO2.2.2.2.2.2.2.2.2.2.2 ?_
      refine r_iload_n (d := mX1_become) (pc := 73) (i := 2) (v := (j : Int)) dX1_become_73 rfl rfl ?_
      refine r_ialds (d := mX1_become) (pc := 74) (a := m2) (x := (I m2 (j : Int))) dX1_become_74 hO2.2.2.2.2.2.1 (by omega) (by omega) (by simp [mUp, cpy, fset, n0, n1, n2, n3, n4, Ne.symm n0.1, Ne.symm n0.2.1, Ne.symm n0.2.2.1, Ne.symm n0.2.2.2.1, Ne.symm n0.2.2.2.2, Ne.symm n1.1, Ne.symm n1.2.1, Ne.symm n1.2.2.1, Ne.symm n1.2.2.2, Ne.symm n2.1, Ne.symm n2.2.1, Ne.symm n2.2.2, Ne.symm n3.1, Ne.symm n3.2, Ne.symm n4, q1, q2, q3, q4, q5]) ?_
      refine r_iasts (d := mX1_become) (pc := 75) (a := m) (lay0, mUp (mUp (mUp (mUp (mUp (cpy (cpy (cpy (cpy (cpy (mUp I a 0 (I a2 0)) w j (I w2)) c j (I c2)) f j (I f2)) g j (I g2)) m j (I m2)) w (j : Int) (I w2 (j : Int))) c (j : Int) (I c2 (j : Int))) f (j : Int) (I f2 (j : Int))) g (j : Int) (I g2 (j : Int))) m (j : Int) (I m2 (j : Int)), P) dX1_become_75 hO.2.2.2.2.2.1 (by omega) (by omega) rfl ?_
      refine r_iinc (d := mX1_become) (pc := 76) (i := 2) (v := (j : Int)) (y := ((j + 1 : Nat) : Int)) (lv' := [(0, .inr (some a)), (1, .inr (some a2)), (2, .inl ((j + 1 : Nat) : Int))]) dX1_become_76 rfl (by decide) rfl (by omega) rfl ?_
      refine r_goto (d := mX1_become) (pc := 79) (tgt := 10) dX1_become_79 (by decide) ?_
      exact wpE (by simp) rfl (by rw [cpy5_s _ n1 n2 n3 n4]) (ih10 (by omega) (by omega))
  exact wpE (by simp) rfl (by simp only [cpy_0]) (L10 0 (by omega))
