/-! ===== Names, Versions, Orders: what their methods do ===== -/
def cpy (I : mIt) (a : Nat) (n : Nat) (f : Int → Int) : mIt := fun x => if x = a then (fun i => if 0 ≤ i ∧ i < (n : Int) then f i else I a i) else I x
theorem cpy_0 (I : mIt) (a : Nat) (f : Int → Int) : cpy I a 0 f = I := by
  funext x
  unfold cpy
  by_cases h : x = a
  · subst h
    rw [if_pos rfl]
    funext i
    rw [if_neg (by omega)]
  · rw [if_neg h]
theorem cpy_ne (I : mIt) {a x : Nat} (n : Nat) (f : Int → Int) (h : x ≠ a) : cpy I a n f x = I x := by unfold cpy; rw [if_neg h]
theorem cpy_in (I : mIt) {a : Nat} {n : Nat} (f : Int → Int) {i : Int} (h0 : 0 ≤ i) (h1 : i < (n : Int)) : cpy I a n f a i = f i := by unfold cpy; rw [if_pos rfl, if_pos ⟨h0, h1⟩]
theorem cpy_s (I : mIt) (a n : Nat) (f : Int → Int) (v : Int) (h : v = f n) : mUp (cpy I a n f) a (n : Int) v = cpy I a (n + 1) f := by
  subst h
  funext x
  unfold mUp cpy
  by_cases h : x = a
  · subst h
    rw [if_pos rfl, if_pos rfl]
    funext i
    unfold fset
    by_cases hi : i = (n : Int)
    · subst hi
      simp
      intro h9; omega
    · rw [if_neg hi, if_pos rfl]
      by_cases h2 : 0 ≤ i ∧ i < (n : Int)
      · have h3 : 0 ≤ i ∧ i < ((n + 1 : Nat) : Int) := by omega
        simp only [if_pos h2, if_pos h3]
      · have h3 : ¬ (0 ≤ i ∧ i < ((n + 1 : Nat) : Int)) := by omega
        simp only [if_neg h2, if_neg h3]
  · rw [if_neg h, if_neg h, if_neg h]
theorem mUp_comm (I : mIt) {a b : Nat} (h : a ≠ b) (i j x y : Int) : mUp (mUp I a i x) b j y = mUp (mUp I b j y) a i x := by
  funext z
  unfold mUp
  by_cases h1 : z = b
  · subst h1
    simp [Ne.symm h]
  · by_cases h2 : z = a
    · subst h2
      simp [h1, h]
    · simp [h1, h2]
theorem mUp_cpy (I : mIt) {a b : Nat} (h : a ≠ b) (i x : Int) (n : Nat) (f : Int → Int) : mUp (cpy I b n f) a i x = cpy (mUp I a i x) b n f := by
  funext z
  unfold mUp cpy
  by_cases h1 : z = a
  · subst h1
    simp [h]
  · by_cases h2 : z = b
    · subst h2
      simp [h1]
    · simp [h1, h2]
/-- two rows side by side, one step further -/
theorem cpy2_s (I : mIt) {a b : Nat} (h : a ≠ b) (n : Nat) (f g : Int → Int) : mUp (mUp (cpy (cpy I a n f) b n g) a (n : Int) (f n)) b (n : Int) (g n) = cpy (cpy I a (n + 1) f) b (n + 1) g := by
  rw [mUp_cpy _ h, cpy_s _ _ _ _ _ rfl, cpy_s _ _ _ _ _ rfl]
theorem cpy3_s (I : mIt) {a b c : Nat} (h : a ≠ b) (h2 : a ≠ c) (h3 : b ≠ c) (n : Nat) (f g e : Int → Int) : mUp (mUp (mUp (cpy (cpy (cpy I a n f) b n g) c n e) a (n : Int) (f n)) b (n : Int) (g n)) c (n : Int) (e n) = cpy (cpy (cpy I a (n + 1) f) b (n + 1) g) c (n + 1) e := by
  rw [mUp_cpy _ h2, mUp_cpy _ h, mUp_cpy _ h3, cpy_s _ _ _ _ _ rfl, cpy_s _ _ _ _ _ rfl, cpy_s _ _ _ _ _ rfl]
def nmask (f : Int → Int) (w : Int) : Nat → Int
  | 0 => 0
  | n + 1 => if f n = w then bOr (nmask f w n) (bShl 1 n) else nmask f w n
def cset (f : Int → Int) : Nat → Int
  | 0 => 0
  | n + 1 => if f n = -1 then cset f n else bOr (cset f n) (bShl 1 (f n))
def csetOf (f : Int → Int) (n : Int) : Int := if n < 0 ∨ 8 ≤ n ∨ f n = -1 then 0 else bShl 1 (f n)
set_option maxRecDepth 20000 in
set_option maxHeartbeats 4000000 in
theorem Fn_X0_namesOn (k : Nat) (I : mIt) (P : mPt) (a c h : Nat) (hN : isNm P a c h) (w : Int) : WP (k + 0) mX0_namesOn none (0, 0) (Rt (some (.inl (nmask (I c) w 8))) (lay0, I, P)) 0 [(0, .inr (some a)), (1, .inl w)] [] (lay0, I, P) := by
  refine r_iconst (d := mX0_namesOn) (pc := 0) (n := 0) dX0_namesOn_0 ?_
  refine r_istore_n (d := mX0_namesOn) (pc := 1) (i := 2) (lv' := [(0, .inr (some a)), (1, .inl w), (2, .inl 0)]) dX0_namesOn_1 rfl (by decide) rfl rfl ?_
  refine r_iconst (d := mX0_namesOn) (pc := 2) (n := 0) dX0_namesOn_2 ?_
  refine r_istore_n (d := mX0_namesOn) (pc := 3) (i := 3) (lv' := [(0, .inr (some a)), (1, .inl w), (2, .inl 0), (3, .inl 0)]) dX0_namesOn_3 rfl (by decide) rfl rfl ?_
  have L4 : ∀ j : Nat, j ≤ 8 → WP (k + 0) mX0_namesOn none (0, 0) (Rt (some (.inl (nmask (I c) w 8))) (lay0, I, P)) 4 [(0, .inr (some a)), (1, .inl w), (2, .inl (nmask (I c) w j)), (3, .inl (j : Int))] [] (lay0, I, P) := by
    refine loopN (8) _ (fun j ih4 hj4 => ?_)
    refine r_iload_n (d := mX0_namesOn) (pc := 4) (i := 3) (v := (j : Int)) dX0_namesOn_4 rfl rfl ?_
    refine r_bipush (d := mX0_namesOn) (pc := 5) (n := 8) dX0_namesOn_5 ?_
    refine r_icmp_ge (d := mX0_namesOn) (pc := 7) (tgt := 32) dX0_namesOn_7 (by decide) (fun h7 => ?_) (fun h7 => ?_)
    · refine r_iload_n (d := mX0_namesOn) (pc := 32) (i := 2) (v := nmask (I c) w j) dX0_namesOn_32 rfl rfl ?_
      exact r_iret (d := mX0_namesOn) (pc := 33) dX0_namesOn_33 rfl (rtI (by rw [show j = 8 by omega]) (by rfl)) (by decide) (by decide)
    · refine r_aload_n (d := mX0_namesOn) (pc := 10) (i := 0) (v := a) dX0_namesOn_10 rfl rfl ?_
      refine r_getRs (d := mX0_namesOn) (pc := 11) (a := a) (kd := 0) (j := 0) (x := c) dX0_namesOn_11 flRX0_9 hN.1 (by decide) (by decide) rfl hN.2.2.2.1 ?_
      refine r_iload_n (d := mX0_namesOn) (pc := 14) (i := 3) (v := (j : Int)) dX0_namesOn_14 rfl rfl ?_
      refine r_ialds (d := mX0_namesOn) (pc := 15) (a := c) (x := (I c (j : Int))) dX0_namesOn_15 hN.2.1 (by omega) (by omega) (rfl) ?_
      refine r_iload_n (d := mX0_namesOn) (pc := 16) (i := 1) (v := w) dX0_namesOn_16 rfl rfl ?_
      refine r_icmp_ne (d := mX0_namesOn) (pc := 17) (tgt := 26) dX0_namesOn_17 (by decide) (fun h17 => ?_) (fun h17 => ?_)
      · refine r_iinc (d := mX0_namesOn) (pc := 26) (i := 3) (v := (j : Int)) (y := ((j + 1 : Nat) : Int)) (lv' := [(0, .inr (some a)), (1, .inl w), (2, .inl (nmask (I c) w j)), (3, .inl ((j + 1 : Nat) : Int))]) dX0_namesOn_26 rfl (by decide) rfl (by omega) rfl ?_
        refine r_goto (d := mX0_namesOn) (pc := 29) (tgt := 4) dX0_namesOn_29 (by decide) ?_
        exact wpE (by simp [nmask, *]) rfl (by rfl) (ih4 (by omega) (by omega))
      · refine r_iload_n (d := mX0_namesOn) (pc := 20) (i := 2) (v := nmask (I c) w j) dX0_namesOn_20 rfl rfl ?_
        refine r_iconst (d := mX0_namesOn) (pc := 21) (n := 1) dX0_namesOn_21 ?_
        refine r_iload_n (d := mX0_namesOn) (pc := 22) (i := 3) (v := (j : Int)) dX0_namesOn_22 rfl rfl ?_
        refine r_ishl (d := mX0_namesOn) (pc := 23) dX0_namesOn_23 ?_
        refine r_ior (d := mX0_namesOn) (pc := 24) dX0_namesOn_24 ?_
        refine r_istore_n (d := mX0_namesOn) (pc := 25) (i := 2) (lv' := [(0, .inr (some a)), (1, .inl w), (2, .inl (bOr (nmask (I c) w j) (bShl 1 (j : Int)))), (3, .inl (j : Int))]) dX0_namesOn_25 rfl (by decide) rfl rfl ?_
        refine r_iinc (d := mX0_namesOn) (pc := 26) (i := 3) (v := (j : Int)) (y := ((j + 1 : Nat) : Int)) (lv' := [(0, .inr (some a)), (1, .inl w), (2, .inl (bOr (nmask (I c) w j) (bShl 1 (j : Int)))), (3, .inl ((j + 1 : Nat) : Int))]) dX0_namesOn_26 rfl (by decide) rfl (by omega) rfl ?_
        refine r_goto (d := mX0_namesOn) (pc := 29) (tgt := 4) dX0_namesOn_29 (by decide) ?_
        exact wpE (by simp [nmask, *]) rfl (by rfl) (ih4 (by omega) (by omega))
  exact wpE (by simp [nmask]) rfl (by rfl) (L4 0 (by omega))
set_option maxRecDepth 20000 in
set_option maxHeartbeats 4000000 in
theorem Fn_X0_chairSet (k : Nat) (I : mIt) (P : mPt) (a c h : Nat) (hN : isNm P a c h) : WP (k + 0) mX0_chairSet none (0, 0) (Rt (some (.inl (cset (I c) 8))) (lay0, I, P)) 0 [(0, .inr (some a))] [] (lay0, I, P) := by
  refine r_iconst (d := mX0_chairSet) (pc := 0) (n := 0) dX0_chairSet_0 ?_
  refine r_istore_n (d := mX0_chairSet) (pc := 1) (i := 1) (lv' := [(0, .inr (some a)), (1, .inl 0)]) dX0_chairSet_1 rfl (by decide) rfl rfl ?_
  refine r_iconst (d := mX0_chairSet) (pc := 2) (n := 0) dX0_chairSet_2 ?_
  refine r_istore_n (d := mX0_chairSet) (pc := 3) (i := 2) (lv' := [(0, .inr (some a)), (1, .inl 0), (2, .inl 0)]) dX0_chairSet_3 rfl (by decide) rfl rfl ?_
  have L4 : ∀ j : Nat, j ≤ 8 → WP (k + 0) mX0_chairSet none (0, 0) (Rt (some (.inl (cset (I c) 8))) (lay0, I, P)) 4 [(0, .inr (some a)), (1, .inl (cset (I c) j)), (2, .inl (j : Int))] [] (lay0, I, P) := by
    refine loopN (8) _ (fun j ih4 hj4 => ?_)
    refine r_iload_n (d := mX0_chairSet) (pc := 4) (i := 2) (v := (j : Int)) dX0_chairSet_4 rfl rfl ?_
    refine r_bipush (d := mX0_chairSet) (pc := 5) (n := 8) dX0_chairSet_5 ?_
    refine r_icmp_ge (d := mX0_chairSet) (pc := 7) (tgt := 37) dX0_chairSet_7 (by decide) (fun h7 => ?_) (fun h7 => ?_)
    · refine r_iload_n (d := mX0_chairSet) (pc := 37) (i := 1) (v := cset (I c) j) dX0_chairSet_37 rfl rfl ?_
      exact r_iret (d := mX0_chairSet) (pc := 38) dX0_chairSet_38 rfl (rtI (by rw [show j = 8 by omega]) (by rfl)) (by decide) (by decide)
    · refine r_aload_n (d := mX0_chairSet) (pc := 10) (i := 0) (v := a) dX0_chairSet_10 rfl rfl ?_
      refine r_getRs (d := mX0_chairSet) (pc := 11) (a := a) (kd := 0) (j := 0) (x := c) dX0_chairSet_11 flRX0_9 hN.1 (by decide) (by decide) rfl hN.2.2.2.1 ?_
      refine r_iload_n (d := mX0_chairSet) (pc := 14) (i := 2) (v := (j : Int)) dX0_chairSet_14 rfl rfl ?_
      refine r_ialds (d := mX0_chairSet) (pc := 15) (a := c) (x := (I c (j : Int))) dX0_chairSet_15 hN.2.1 (by omega) (by omega) (rfl) ?_
      refine r_iconst (d := mX0_chairSet) (pc := 16) (n := (-1)) dX0_chairSet_16 ?_
      refine r_icmp_eq (d := mX0_chairSet) (pc := 17) (tgt := 31) dX0_chairSet_17 (by decide) (fun h17 => ?_) (fun h17 => ?_)
      · refine r_iinc (d := mX0_chairSet) (pc := 31) (i := 2) (v := (j : Int)) (y := ((j + 1 : Nat) : Int)) (lv' := [(0, .inr (some a)), (1, .inl (cset (I c) j)), (2, .inl ((j + 1 : Nat) : Int))]) dX0_chairSet_31 rfl (by decide) rfl (by omega) rfl ?_
        refine r_goto (d := mX0_chairSet) (pc := 34) (tgt := 4) dX0_chairSet_34 (by decide) ?_
        exact wpE (by simp [cset, *]) rfl (by rfl) (ih4 (by omega) (by omega))
      · refine r_iload_n (d := mX0_chairSet) (pc := 20) (i := 1) (v := cset (I c) j) dX0_chairSet_20 rfl rfl ?_
        refine r_iconst (d := mX0_chairSet) (pc := 21) (n := 1) dX0_chairSet_21 ?_
        refine r_aload_n (d := mX0_chairSet) (pc := 22) (i := 0) (v := a) dX0_chairSet_22 rfl rfl ?_
        refine r_getRs (d := mX0_chairSet) (pc := 23) (a := a) (kd := 0) (j := 0) (x := c) dX0_chairSet_23 flRX0_9 hN.1 (by decide) (by decide) rfl hN.2.2.2.1 ?_
        refine r_iload_n (d := mX0_chairSet) (pc := 26) (i := 2) (v := (j : Int)) dX0_chairSet_26 rfl rfl ?_
        refine r_ialds (d := mX0_chairSet) (pc := 27) (a := c) (x := (I c (j : Int))) dX0_chairSet_27 hN.2.1 (by omega) (by omega) (rfl) ?_
        refine r_ishl (d := mX0_chairSet) (pc := 28) dX0_chairSet_28 ?_
        refine r_ior (d := mX0_chairSet) (pc := 29) dX0_chairSet_29 ?_
        refine r_istore_n (d := mX0_chairSet) (pc := 30) (i := 1) (lv' := [(0, .inr (some a)), (1, .inl (bOr (cset (I c) j) (bShl 1 (I c (j : Int))))), (2, .inl (j : Int))]) dX0_chairSet_30 rfl (by decide) rfl rfl ?_
        refine r_iinc (d := mX0_chairSet) (pc := 31) (i := 2) (v := (j : Int)) (y := ((j + 1 : Nat) : Int)) (lv' := [(0, .inr (some a)), (1, .inl (bOr (cset (I c) j) (bShl 1 (I c (j : Int))))), (2, .inl ((j + 1 : Nat) : Int))]) dX0_chairSet_31 rfl (by decide) rfl (by omega) rfl ?_
        refine r_goto (d := mX0_chairSet) (pc := 34) (tgt := 4) dX0_chairSet_34 (by decide) ?_
        exact wpE (by simp [cset, *]) rfl (by rfl) (ih4 (by omega) (by omega))
  exact wpE (by simp [cset]) rfl (by rfl) (L4 0 (by omega))
set_option maxRecDepth 20000 in
set_option maxHeartbeats 4000000 in
theorem Fn_X0_chairSetOf (k : Nat) (I : mIt) (P : mPt) (a c h : Nat) (hN : isNm P a c h) (w : Int) : WP (k + 0) mX0_chairSetOf none (0, 0) (Rt (some (.inl (csetOf (I c) w))) (lay0, I, P)) 0 [(0, .inr (some a)), (1, .inl w)] [] (lay0, I, P) := by
  refine r_iload_n (d := mX0_chairSetOf) (pc := 0) (i := 1) (v := w) dX0_chairSetOf_0 rfl rfl ?_
  refine r_if_lt (d := mX0_chairSetOf) (pc := 1) (tgt := 20) dX0_chairSetOf_1 (by decide) (fun h1 => ?_) (fun h1 => ?_)
  · refine r_iconst (d := mX0_chairSetOf) (pc := 20) (n := 0) dX0_chairSetOf_20 ?_
    exact r_iret (d := mX0_chairSetOf) (pc := 21) dX0_chairSetOf_21 rfl (rtI (by simp [csetOf, *]; try omega) (by rfl)) (by decide) (by decide)
  · refine r_iload_n (d := mX0_chairSetOf) (pc := 4) (i := 1) (v := w) dX0_chairSetOf_4 rfl rfl ?_
    refine r_bipush (d := mX0_chairSetOf) (pc := 5) (n := 8) dX0_chairSetOf_5 ?_
    refine r_icmp_ge (d := mX0_chairSetOf) (pc := 7) (tgt := 20) dX0_chairSetOf_7 (by decide) (fun h7 => ?_) (fun h7 => ?_)
    · refine r_iconst (d := mX0_chairSetOf) (pc := 20) (n := 0) dX0_chairSetOf_20 ?_
      exact r_iret (d := mX0_chairSetOf) (pc := 21) dX0_chairSetOf_21 rfl (rtI (by simp [csetOf, *]; try omega) (by rfl)) (by decide) (by decide)
    · refine r_aload_n (d := mX0_chairSetOf) (pc := 10) (i := 0) (v := a) dX0_chairSetOf_10 rfl rfl ?_
      refine r_getRs (d := mX0_chairSetOf) (pc := 11) (a := a) (kd := 0) (j := 0) (x := c) dX0_chairSetOf_11 flRX0_9 hN.1 (by decide) (by decide) rfl hN.2.2.2.1 ?_
      refine r_iload_n (d := mX0_chairSetOf) (pc := 14) (i := 1) (v := w) dX0_chairSetOf_14 rfl rfl ?_
      refine r_ialds (d := mX0_chairSetOf) (pc := 15) (a := c) (x := (I c w)) dX0_chairSetOf_15 hN.2.1 (by omega) (by omega) (rfl) ?_
      refine r_iconst (d := mX0_chairSetOf) (pc := 16) (n := (-1)) dX0_chairSetOf_16 ?_
      refine r_icmp_ne (d := mX0_chairSetOf) (pc := 17) (tgt := 22) dX0_chairSetOf_17 (by decide) (fun h17 => ?_) (fun h17 => ?_)
      · refine r_iconst (d := mX0_chairSetOf) (pc := 22) (n := 1) dX0_chairSetOf_22 ?_
        refine r_aload_n (d := mX0_chairSetOf) (pc := 23) (i := 0) (v := a) dX0_chairSetOf_23 rfl rfl ?_
        refine r_getRs (d := mX0_chairSetOf) (pc := 24) (a := a) (kd := 0) (j := 0) (x := c) dX0_chairSetOf_24 flRX0_9 hN.1 (by decide) (by decide) rfl hN.2.2.2.1 ?_
        refine r_iload_n (d := mX0_chairSetOf) (pc := 27) (i := 1) (v := w) dX0_chairSetOf_27 rfl rfl ?_
        refine r_ialds (d := mX0_chairSetOf) (pc := 28) (a := c) (x := (I c w)) dX0_chairSetOf_28 hN.2.1 (by omega) (by omega) (rfl) ?_
        refine r_ishl (d := mX0_chairSetOf) (pc := 29) dX0_chairSetOf_29 ?_
        exact r_iret (d := mX0_chairSetOf) (pc := 30) dX0_chairSetOf_30 rfl (rtI (by simp [csetOf, *]; try omega) (by rfl)) (by decide) (by decide)
      · refine r_iconst (d := mX0_chairSetOf) (pc := 20) (n := 0) dX0_chairSetOf_20 ?_
        exact r_iret (d := mX0_chairSetOf) (pc := 21) dX0_chairSetOf_21 rfl (rtI (by simp [csetOf, *]; try omega) (by rfl)) (by decide) (by decide)
set_option maxRecDepth 20000 in
set_option maxHeartbeats 4000000 in
theorem Fn_X0_standAtZero (k : Nat) (I : mIt) (P : mPt) (a c h : Nat) (hN : isNm P a c h) (hch : c ≠ h) : WP (k + 0) mX0_standAtZero none (0, 0) (Rt none (lay0, cpy (cpy I c 8 (fun _ => -1)) h 8 (fun _ => 0), P)) 0 [(0, .inr (some a))] [] (lay0, I, P) := by
  refine r_iconst (d := mX0_standAtZero) (pc := 0) (n := 0) dX0_standAtZero_0 ?_
  refine r_istore_n (d := mX0_standAtZero) (pc := 1) (i := 1) (lv' := [(0, .inr (some a)), (1, .inl 0)]) dX0_standAtZero_1 rfl (by decide) rfl rfl ?_
  have L2 : ∀ j : Nat, j ≤ 8 → WP (k + 0) mX0_standAtZero none (0, 0) (Rt none (lay0, cpy (cpy I c 8 (fun _ => -1)) h 8 (fun _ => 0), P)) 2 [(0, .inr (some a)), (1, .inl (j : Int))] [] (lay0, cpy (cpy I c j (fun _ => -1)) h j (fun _ => 0), P) := by
    refine loopN (8) _ (fun j ih2 hj2 => ?_)
    refine r_iload_n (d := mX0_standAtZero) (pc := 2) (i := 1) (v := (j : Int)) dX0_standAtZero_2 rfl rfl ?_
    refine r_bipush (d := mX0_standAtZero) (pc := 3) (n := 8) dX0_standAtZero_3 ?_
    refine r_icmp_ge (d := mX0_standAtZero) (pc := 5) (tgt := 28) dX0_standAtZero_5 (by decide) (fun h5 => ?_) (fun h5 => ?_)
    · exact r_ret (d := mX0_standAtZero) (pc := 28) dX0_standAtZero_28 rfl (rtV (by rw [show j = 8 by omega])) (by decide) (by decide)
    · refine r_aload_n (d := mX0_standAtZero) (pc := 8) (i := 0) (v := a) dX0_standAtZero_8 rfl rfl ?_
      refine r_getRs (d := mX0_standAtZero) (pc := 9) (a := a) (kd := 0) (j := 0) (x := c) dX0_standAtZero_9 flRX0_9 hN.1 (by decide) (by decide) rfl hN.2.2.2.1 ?_
      refine r_iload_n (d := mX0_standAtZero) (pc := 12) (i := 1) (v := (j : Int)) dX0_standAtZero_12 rfl rfl ?_
      refine r_iconst (d := mX0_standAtZero) (pc := 13) (n := (-1)) dX0_standAtZero_13 ?_
      refine r_iast (d := mX0_standAtZero) (pc := 14) (a := c) dX0_standAtZero_14 hN.2.1 (by omega) (by omega) ?_
      refine r_aload_n (d := mX0_standAtZero) (pc := 15) (i := 0) (v := a) dX0_standAtZero_15 rfl rfl ?_
      refine r_getRs (d := mX0_standAtZero) (pc := 16) (a := a) (kd := 0) (j := 1) (x := h) dX0_standAtZero_16 flRX0_15 hN.1 (by decide) (by decide) rfl hN.2.2.2.2 ?_
      refine r_iload_n (d := mX0_standAtZero) (pc := 19) (i := 1) (v := (j : Int)) dX0_standAtZero_19 rfl rfl ?_
      refine r_iconst (d := mX0_standAtZero) (pc := 20) (n := 0) dX0_standAtZero_20 ?_
      refine r_iast (d := mX0_standAtZero) (pc := 21) (a := h) dX0_standAtZero_21 hN.2.2.1 (by omega) (by omega) ?_
      refine r_iinc (d := mX0_standAtZero) (pc := 22) (i := 1) (v := (j : Int)) (y := ((j + 1 : Nat) : Int)) (lv' := [(0, .inr (some a)), (1, .inl ((j + 1 : Nat) : Int))]) dX0_standAtZero_22 rfl (by decide) rfl (by omega) rfl ?_
      refine r_goto (d := mX0_standAtZero) (pc := 25) (tgt := 2) dX0_standAtZero_25 (by decide) ?_
      exact wpE (by simp) rfl (by rw [cpy2_s I hch j (fun _ => -1) (fun _ => 0)]) (ih2 (by omega) (by omega))
  exact wpE (by simp) rfl (by rw [cpy_0, cpy_0]) (L2 0 (by omega))
