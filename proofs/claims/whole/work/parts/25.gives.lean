/-! ===== the model: orders ===== -/
def gvA (s : Int → Int) (n m nc : Nat) (name one other : Int) : Int → Int := if name = one ∨ name = other then fset s 7 (s 7 + 1) else guM (fset s 7 (s 7 + 1)) n m nc name
def gvB (s : Int → Int) (n m nc : Nat) (name one other : Int) : Int → Int := siS (gvA s n m nc name one other) n m nc one one other
def gvC (s : Int → Int) (n m nc : Nat) (name one other : Int) : Int → Int := siS (gvB s n m nc name one other) n m nc other one other
def gv1 (s : Int → Int) (n m nc : Nat) (name one other : Int) : Bool := siB (gvA s n m nc name one other) n m nc one one other
def gv2 (s : Int → Int) (n m nc : Nat) (name one other : Int) : Bool := siB (gvB s n m nc name one other) n m nc other one other
def gvF (s : Int → Int) (n m nc : Nat) (name one other : Int) : Int := gvC s n m nc name one other (12 + one)
def gvG (s : Int → Int) (n m nc : Nat) (name one other : Int) : Int := gvC s n m nc name one other (12 + other)
def gvD (s : Int → Int) (n m nc : Nat) (name one other : Int) : Int → Int := if n < 6 then fset (fset (gvC s n m nc name one other) (111 + 7 * (n : Int) + 2) (gvF s n m nc name one other)) (111 + 7 * (n : Int) + 3) (gvG s n m nc name one other) else gvC s n m nc name one other
def gvK (s : Int → Int) (n m nc : Nat) (name one other : Int) : Int := cfV (gvD s n m nc name one other) n m nc one other
def gvE (s : Int → Int) (n m nc : Nat) (name one other : Int) : Int → Int := cfS (gvD s n m nc name one other) n m nc one other
def gvX (s : Int → Int) (n m nc : Nat) (name one other : Int) : Int → Int := fset (fset (fset (fset (fset (fset (fset (fset (gvE s n m nc name one other) (28 + 5 * gvF s n m nc name one other + 4) (s 7 + 1)) (28 + 5 * gvG s n m nc name one other + 4) (s 7 + 1)) (12 + name) (gvK s n m nc name one other)) (28 + 5 * gvK s n m nc name one other + 0) 1) (28 + 5 * gvK s n m nc name one other + 1) 0) (28 + 5 * gvK s n m nc name one other + 2) 0) (28 + 5 * gvK s n m nc name one other + 3) (-1)) (28 + 5 * gvK s n m nc name one other + 4) (s 7 + 1)
def gvV (s : Int → Int) (n m nc : Nat) (name one other : Int) : Int := if gv1 s n m nc name one other = true ∧ gv2 s n m nc name one other = true then (if gvK s n m nc name one other < 0 then -4 else gvK s n m nc name one other) else -4
def gvS (s : Int → Int) (n m nc : Nat) (name one other : Int) : Int → Int := if gv1 s n m nc name one other = true then (if gv2 s n m nc name one other = true then (if gvK s n m nc name one other < 0 then gvE s n m nc name one other else gvX s n m nc name one other) else gvC s n m nc name one other) else gvB s n m nc name one other
theorem gvA_lo (s : Int → Int) (n m nc : Nat) (name one other : Int) {i : Int} (h : i < 12) (h7 : i ≠ 7) (h0 : 0 ≤ name) : gvA s n m nc name one other i = s i := by
  unfold gvA
  split
  · rw [fset_ne _ _ h7]
  · rw [guM_lo _ _ _ _ _ h h0, fset_ne _ _ h7]
theorem gvA_7 (s : Int → Int) (n m nc : Nat) (name one other : Int) (h0 : 0 ≤ name) : gvA s n m nc name one other 7 = s 7 + 1 := by
  unfold gvA
  split
  · rw [fset_at]
  · rw [guM_lo _ _ _ _ _ (by omega) h0, fset_at]
theorem gvB_lo (s : Int → Int) (n m nc : Nat) (name one other : Int) {i : Int} (h : i < 12) (h5 : i ≠ 5) (h6 : i ≠ 6) (h1 : 0 ≤ one) : gvB s n m nc name one other i = gvA s n m nc name one other i := siS_lo _ _ _ _ _ _ _ h h5 h6 h1
theorem gvC_lo (s : Int → Int) (n m nc : Nat) (name one other : Int) {i : Int} (h : i < 12) (h5 : i ≠ 5) (h6 : i ≠ 6) (h1 : 0 ≤ one) (h2 : 0 ≤ other) : gvC s n m nc name one other i = gvA s n m nc name one other i := (siS_lo _ _ _ _ _ _ _ h h5 h6 h2).trans (siS_lo _ _ _ _ _ _ _ h h5 h6 h1)
theorem gvD_lo (s : Int → Int) (n m nc : Nat) (name one other : Int) {i : Int} (h : i < 63) : gvD s n m nc name one other i = gvC s n m nc name one other i := by
  unfold gvD
  split
  · rw [fset_ne _ _ (by omega), fset_ne _ _ (by omega)]
  · rfl
theorem gvE_lo (s : Int → Int) (n m nc : Nat) (name one other : Int) {i : Int} (h : i < 12) (h5 : i ≠ 5) : gvE s n m nc name one other i = gvC s n m nc name one other i := (cfS_ne _ _ _ _ _ _ (by omega) h5).trans (gvD_lo _ _ _ _ _ _ _ (by omega))
theorem cfS_5 (s : Int → Int) (n m nc : Nat) (one other : Int) : s 5 ≤ cfS s n m nc one other 5 ∧ cfS s n m nc one other 5 ≤ s 5 + 1 := by
  unfold cfS
  split
  · rw [fset_at]; omega
  · omega
theorem getS_5 (s : Int → Int) (n m nc : Nat) (name one other : Int) (h0 : 0 ≤ name) : s 5 ≤ getS s n m nc name one other 5 ∧ getS s n m nc name one other 5 ≤ s 5 + 1 := by
  have hc := cfV_rng s n m nc one other
  have h5 := cfS_5 s n m nc one other
  unfold getS
  split
  · exact h5
  · unfold gtS
    rw [fset_ne _ _ (by omega), fset_ne _ _ (by omega), fset_ne _ _ (by omega), fset_ne _ _ (by omega), fset_ne _ _ (by omega), fset_ne _ _ (by omega)]
    exact h5
theorem siS_56 (s : Int → Int) (n m nc : Nat) (name one other : Int) (h0 : 0 ≤ name) : (s 5 ≤ siS s n m nc name one other 5 ∧ siS s n m nc name one other 5 ≤ s 5 + 1) ∧ (s 6 ≤ siS s n m nc name one other 6 ∧ siS s n m nc name one other 6 ≤ s 6 + 1) := by
  have hc := cfV_rng s n m nc one other
  have h5 := getS_5 s n m nc name one other h0
  have e6 : getS s n m nc name one other 6 = s 6 := getS_ne _ _ _ _ _ _ _ (by omega) (by omega) h0
  unfold siS
  split
  · omega
  · split
    · omega
    · unfold stX
      rw [fset_ne _ _ (by omega), fset_ne _ _ (by omega), fset_ne _ _ (by omega), fset_ne _ _ (by omega), fset_ne _ _ (by omega), fset_ne _ _ (by omega), fset_ne _ _ (by omega), fset_at, e6]
      omega
theorem gv_56 (s : Int → Int) (n m nc : Nat) (name one other : Int) (h0 : 0 ≤ name) (h1 : 0 ≤ one) (h2 : 0 ≤ other) : (s 5 ≤ gvB s n m nc name one other 5 ∧ gvB s n m nc name one other 5 ≤ s 5 + 1) ∧ (s 6 ≤ gvB s n m nc name one other 6 ∧ gvB s n m nc name one other 6 ≤ s 6 + 1) ∧ (s 5 ≤ gvC s n m nc name one other 5 ∧ gvC s n m nc name one other 5 ≤ s 5 + 2) ∧ (s 6 ≤ gvC s n m nc name one other 6 ∧ gvC s n m nc name one other 6 ≤ s 6 + 2) := by
  have a5 := gvA_lo s n m nc name one other (i := 5) (by decide) (by decide) h0
  have a6 := gvA_lo s n m nc name one other (i := 6) (by decide) (by decide) h0
  have b := siS_56 (gvA s n m nc name one other) n m nc one one other h1
  have c := siS_56 (gvB s n m nc name one other) n m nc other one other h2
  unfold gvC
  unfold gvB at c ⊢
  omega
theorem siS_st (s : Int → Int) (n m nc : Nat) (name one other : Int) (hn0 : 0 ≤ name) (hn8 : name < 8) (hnc : nc ≤ 7) (hs : ∀ i : Int, 12 ≤ i → i < 20 → s i < 7) : ∀ i : Int, 12 ≤ i → i < 20 → siS s n m nc name one other i < 7 := by
  intro i h1 h2
  have hc := cfV_rng s n m nc one other
  have hcf : cfS s n m nc one other i < 7 := by
    unfold cfS
    split
    · rw [fset_ne _ _ (by omega)]
      have hsn : ∀ (c : Int) (j : Nat), j ≤ 8 → snR s c j i < 7 := by
        intro c j
        induction j with
        | zero => intro _; exact hs i h1 h2
        | succ j ih =>
          intro hj
          unfold snR
          split
          · rw [fset_ne _ _ (by omega)]
            by_cases hi : i = 12 + (j : Int)
            · rw [hi, fset_at]; omega
            · rw [fset_ne _ _ hi]; exact ih (by omega)
          · exact ih (by omega)
      exact hsn _ 8 (Nat.le_refl _)
    · exact hs i h1 h2
  have hget : getS s n m nc name one other i < 7 := by
    unfold getS
    split
    · exact hcf
    · unfold gtS
      rw [fset_ne _ _ (by omega), fset_ne _ _ (by omega), fset_ne _ _ (by omega), fset_ne _ _ (by omega), fset_ne _ _ (by omega)]
      by_cases hi : i = 12 + name
      · rw [hi, fset_at]; omega
      · rw [fset_ne _ _ hi]; exact hcf
  unfold siS
  split
  · exact hs i h1 h2
  · split
    · exact hget
    · unfold stX
      rw [fset_ne _ _ (by omega), fset_ne _ _ (by omega), fset_ne _ _ (by omega), fset_ne _ _ (by omega)]
      exact hget
/-- a second one sits down: who sits stays, unless it is sent out, which is not done to who is read -/
theorem gvA_st (s : Int → Int) (n m nc : Nat) (name one other : Int) (hn0 : 0 ≤ name) (hn8 : name < 8) (hs : ∀ i : Int, 12 ≤ i → i < 20 → s i < 7) : ∀ i : Int, 12 ≤ i → i < 20 → gvA s n m nc name one other i < 7 := by
  intro i h1 h2
  unfold gvA
  split
  · rw [fset_ne _ _ (by omega)]; exact hs i h1 h2
  · unfold guM
    rw [frM_lo _ _ _ _ (by omega)]
    by_cases hi : i = 12 + name
    · rw [hi, fset_at]; omega
    · rw [fset_ne _ _ hi, fset_ne _ _ (by omega)]; exact hs i h1 h2
set_option maxRecDepth 20000 in
set_option maxHeartbeats 4000000 in
theorem Fn_X6_gives (k : Nat) (I : mIt) (P : mPt) (hM : isMd P) (n : Nat) (hn : I 156 3 = n) (hn6 : n ≤ 6) (m : Nat) (hm : I 156 2 = m) (hm3 : m ≤ 3) (nc : Nat) (hc : I 156 0 = nc) (hc7 : nc ≤ 7) (hq : 0 ≤ I 155 4 ∧ I 155 4 ≤ 4) (hs5 : 0 ≤ I 156 5 ∧ I 156 5 ≤ 2000000000) (hs6 : 0 ≤ I 156 6 ∧ I 156 6 ≤ 2000000000) (hs1 : 0 ≤ I 156 1 ∧ I 156 1 ≤ 60000) (hs10 : 0 ≤ I 156 10 ∧ I 156 10 ≤ 9) (hs7 : 0 ≤ I 156 7 ∧ I 156 7 ≤ 2000000000) (hs5b : I 156 5 ≤ 1999999990) (hs6b : I 156 6 ≤ 1999999990) (hseat : ∀ i : Int, 12 ≤ i → i < 20 → I 156 i < 7) (name one other : Int) (hnm0 : 0 ≤ name) (hnm8 : name < 8) (ho1 : 0 ≤ one) (ho2 : one < 8) (ho3 : 0 ≤ other) (ho4 : other < 8) (hfg : gv1 (I 156) n m nc name one other = true → gv2 (I 156) n m nc name one other = true → (0 ≤ gvF (I 156) n m nc name one other ∧ gvF (I 156) n m nc name one other < 7) ∧ (0 ≤ gvG (I 156) n m nc name one other ∧ gvG (I 156) n m nc name one other < 7)) : WP (k + 6) mX6_gives none (0, 0) (Rt (some (.inl (gvV (I 156) n m nc name one other))) (lay0, arS I 156 (gvS (I 156) n m nc name one other), P)) 0 [(0, .inr (some 155)), (1, .inl name), (2, .inl one), (3, .inl other)] [] (lay0, I, P) := by
  refine r_aload_n (d := mX6_gives) (pc := 0) (i := 0) (v := 155) dX6_gives_0 rfl rfl ?_
  refine r_getRs (d := mX6_gives) (pc := 1) (a := 155) (kd := 6) (j := 0) (x := 156) dX6_gives_1 flRX6_7 ly155 (by decide) (by decide) rfl hM.1 ?_
  refine r_bipush (d := mX6_gives) (pc := 4) (n := 7) dX6_gives_4 ?_
  refine r_dup2 (d := mX6_gives) (pc := 6) dX6_gives_6 ?_
  refine r_ialds (d := mX6_gives) (pc := 7) (a := 156) (x := (I 156 7)) dX6_gives_7 ly156 (by decide) (by decide) (rfl) ?_
  refine r_iconst (d := mX6_gives) (pc := 8) (n := 1) dX6_gives_8 ?_
  refine r_iadd (d := mX6_gives) (pc := 9) dX6_gives_9 ?_
  refine r_iasts (d := mX6_gives) (pc := 10) (a := 156) (lay0, arS I 156 (fset (I 156) 7 ((I 156 7) + 1)), P) dX6_gives_10 ly156 (by decide) (by decide) rfl ?_
  have T26 : WP (k + 6) mX6_gives none (0, 0) (Rt (some (.inl (gvV (I 156) n m nc name one other))) (lay0, arS I 156 (gvS (I 156) n m nc name one other), P)) 26 [(0, .inr (some 155)), (1, .inl name), (2, .inl one), (3, .inl other)] [] (lay0, arS I 156 (gvA (I 156) n m nc name one other), P) := by
    refine r_aload_n (d := mX6_gives) (pc := 26) (i := 0) (v := 155) dX6_gives_26 rfl rfl ?_
    refine r_iload_n (d := mX6_gives) (pc := 27) (i := 2) (v := one) dX6_gives_27 rfl rfl ?_
    refine r_iload_n (d := mX6_gives) (pc := 28) (i := 2) (v := one) dX6_gives_28 rfl rfl ?_
    refine r_iload_n (d := mX6_gives) (pc := 29) (i := 3) (v := other) dX6_gives_29 rfl rfl ?_
    refine r_cV3 (d := mX6_gives) (pc := 30) (dj := mX6_sits) (a := 155) (kd := 6) dX6_gives_30 mlRX6_99 inX6_sits selX6_sits rfl ly155 (by decide) okX6_sits (by decide) rfl (Nat.le_of_ble_eq_true rfl) (by decide) (by decide) (Fn_X6_sits k (arS I 156 (gvA (I 156) n m nc name one other)) P hM n ((show (gvA (I 156) n m nc name one other) 3 = I 156 3 by rw [gvA_lo _ _ _ _ _ _ _ (by omega) (by omega) (by omega)]).trans hn) hn6 m ((show (gvA (I 156) n m nc name one other) 2 = I 156 2 by rw [gvA_lo _ _ _ _ _ _ _ (by omega) (by omega) (by omega)]).trans hm) hm3 nc ((show (gvA (I 156) n m nc name one other) 0 = I 156 0 by rw [gvA_lo _ _ _ _ _ _ _ (by omega) (by omega) (by omega)]).trans hc) hc7 (by have e9 := (show (gvA (I 156) n m nc name one other) 5 = I 156 5 by rw [gvA_lo _ _ _ _ _ _ _ (by omega) (by omega) (by omega)]); show 0 ≤ (gvA (I 156) n m nc name one other) 5 ∧ (gvA (I 156) n m nc name one other) 5 ≤ _; omega) (by have e9 := (show (gvA (I 156) n m nc name one other) 6 = I 156 6 by rw [gvA_lo _ _ _ _ _ _ _ (by omega) (by omega) (by omega)]); show 0 ≤ (gvA (I 156) n m nc name one other) 6 ∧ (gvA (I 156) n m nc name one other) 6 ≤ _; omega) (by have e9 := (show (gvA (I 156) n m nc name one other) 1 = I 156 1 by rw [gvA_lo _ _ _ _ _ _ _ (by omega) (by omega) (by omega)]); show 0 ≤ (gvA (I 156) n m nc name one other) 1 ∧ (gvA (I 156) n m nc name one other) 1 ≤ _; omega) (by have e9 := (show (gvA (I 156) n m nc name one other) 10 = I 156 10 by rw [gvA_lo _ _ _ _ _ _ _ (by omega) (by omega) (by omega)]); show 0 ≤ (gvA (I 156) n m nc name one other) 10 ∧ (gvA (I 156) n m nc name one other) 10 ≤ _; omega) one (by omega) (by omega) one other (by omega) (by omega) (by omega) (by omega) (by omega)) ?_
    refine wpE (lv' := [(0, .inr (some 155)), (1, .inl name), (2, .inl one), (3, .inl other)]) (st' := [.inl (bI (siB (gvA (I 156) n m nc name one other) n m nc one one other = true))]) (M' := (lay0, arS I 156 (siS (gvA (I 156) n m nc name one other) n m nc one one other), P)) rfl rfl (memE (arS_arS _ _ _ _)) ?_
    change WP _ _ _ _ _ _ _ [.inl (bI (gv1 (I 156) n m nc name one other = true))] (lay0, arS I 156 (gvB (I 156) n m nc name one other), P)
    refine r_ifb_eq (d := mX6_gives) (pc := 33) (tgt := 46) dX6_gives_33 (by decide) (fun h33 => ?_) (fun h33 => ?_)
    · refine r_bipush (d := mX6_gives) (pc := 46) (n := (-4)) dX6_gives_46 ?_
      exact r_iret (d := mX6_gives) (pc := 48) dX6_gives_48 rfl (rtI (by rw [gvV, if_neg (fun q => h33 q.1)]) (by refine memE ?_; rw [gvS, if_neg h33])) (by decide) (by decide)
    · refine r_aload_n (d := mX6_gives) (pc := 36) (i := 0) (v := 155) dX6_gives_36 rfl rfl ?_
      refine r_iload_n (d := mX6_gives) (pc := 37) (i := 3) (v := other) dX6_gives_37 rfl rfl ?_
      refine r_iload_n (d := mX6_gives) (pc := 38) (i := 2) (v := one) dX6_gives_38 rfl rfl ?_
      refine r_iload_n (d := mX6_gives) (pc := 39) (i := 3) (v := other) dX6_gives_39 rfl rfl ?_
      refine r_cV3 (d := mX6_gives) (pc := 40) (dj := mX6_sits) (a := 155) (kd := 6) dX6_gives_40 mlRX6_99 inX6_sits selX6_sits rfl ly155 (by decide) okX6_sits (by decide) rfl (Nat.le_of_ble_eq_true rfl) (by decide) (by decide) (Fn_X6_sits k (arS I 156 (gvB (I 156) n m nc name one other)) P hM n ((show (gvB (I 156) n m nc name one other) 3 = I 156 3 by rw [gvB_lo _ _ _ _ _ _ _ (by omega) (by omega) (by omega) (by omega), gvA_lo _ _ _ _ _ _ _ (by omega) (by omega) (by omega)]).trans hn) hn6 m ((show (gvB (I 156) n m nc name one other) 2 = I 156 2 by rw [gvB_lo _ _ _ _ _ _ _ (by omega) (by omega) (by omega) (by omega), gvA_lo _ _ _ _ _ _ _ (by omega) (by omega) (by omega)]).trans hm) hm3 nc ((show (gvB (I 156) n m nc name one other) 0 = I 156 0 by rw [gvB_lo _ _ _ _ _ _ _ (by omega) (by omega) (by omega) (by omega), gvA_lo _ _ _ _ _ _ _ (by omega) (by omega) (by omega)]).trans hc) hc7 (by have := gv_56 (I 156) n m nc name one other (by omega) (by omega) (by omega); show 0 ≤ (gvB (I 156) n m nc name one other) 5 ∧ (gvB (I 156) n m nc name one other) 5 ≤ 2000000000; omega) (by have := gv_56 (I 156) n m nc name one other (by omega) (by omega) (by omega); show 0 ≤ (gvB (I 156) n m nc name one other) 6 ∧ (gvB (I 156) n m nc name one other) 6 ≤ 2000000000; omega) (by have e9 := (show (gvB (I 156) n m nc name one other) 1 = I 156 1 by rw [gvB_lo _ _ _ _ _ _ _ (by omega) (by omega) (by omega) (by omega), gvA_lo _ _ _ _ _ _ _ (by omega) (by omega) (by omega)]); show 0 ≤ (gvB (I 156) n m nc name one other) 1 ∧ (gvB (I 156) n m nc name one other) 1 ≤ _; omega) (by have e9 := (show (gvB (I 156) n m nc name one other) 10 = I 156 10 by rw [gvB_lo _ _ _ _ _ _ _ (by omega) (by omega) (by omega) (by omega), gvA_lo _ _ _ _ _ _ _ (by omega) (by omega) (by omega)]); show 0 ≤ (gvB (I 156) n m nc name one other) 10 ∧ (gvB (I 156) n m nc name one other) 10 ≤ _; omega) other (by omega) (by omega) one other (by omega) (by omega) (by omega) (by omega) (by omega)) ?_
      refine wpE (lv' := [(0, .inr (some 155)), (1, .inl name), (2, .inl one), (3, .inl other)]) (st' := [.inl (bI (siB (gvB (I 156) n m nc name one other) n m nc other one other = true))]) (M' := (lay0, arS I 156 (siS (gvB (I 156) n m nc name one other) n m nc other one other), P)) rfl rfl (memE (arS_arS _ _ _ _)) ?_
      change WP _ _ _ _ _ _ _ [.inl (bI (gv2 (I 156) n m nc name one other = true))] (lay0, arS I 156 (gvC (I 156) n m nc name one other), P)
      refine r_ifb_ne (d := mX6_gives) (pc := 43) (tgt := 49) dX6_gives_43 (by decide) (fun h43 => ?_) (fun h43 => ?_)
      · have hFG := hfg h33 h43
        refine r_aload_n (d := mX6_gives) (pc := 49) (i := 0) (v := 155) dX6_gives_49 rfl rfl ?_
        refine r_getRs (d := mX6_gives) (pc := 50) (a := 155) (kd := 6) (j := 0) (x := 156) dX6_gives_50 flRX6_7 ly155 (by decide) (by decide) rfl hM.1 ?_
        refine r_iconst (d := mX6_gives) (pc := 53) (n := 3) dX6_gives_53 ?_
        refine r_ialds (d := mX6_gives) (pc := 54) (a := 156) (x := (n : Int)) dX6_gives_54 ly156 (by decide) (by decide) (by show (gvC (I 156) n m nc name one other) 3 = _; rw [gvC_lo _ _ _ _ _ _ _ (by omega) (by omega) (by omega) (by omega) (by omega), gvA_lo _ _ _ _ _ _ _ (by omega) (by omega) (by omega)]; exact hn) ?_
        refine r_istore (d := mX6_gives) (pc := 55) (i := 4) (lv' := [(0, .inr (some 155)), (1, .inl name), (2, .inl one), (3, .inl other), (4, .inl (n : Int))]) dX6_gives_55 (by decide) rfl rfl ?_
        have T104 : WP (k + 6) mX6_gives none (0, 0) (Rt (some (.inl (gvV (I 156) n m nc name one other))) (lay0, arS I 156 (gvS (I 156) n m nc name one other), P)) 104 [(0, .inr (some 155)), (1, .inl name), (2, .inl one), (3, .inl other), (4, .inl (n : Int))] [] (lay0, arS I 156 (gvD (I 156) n m nc name one other), P) := by
          refine r_aload_n (d := mX6_gives) (pc := 104) (i := 0) (v := 155) dX6_gives_104 rfl rfl ?_
          refine r_getRs (d := mX6_gives) (pc := 105) (a := 155) (kd := 6) (j := 0) (x := 156) dX6_gives_105 flRX6_7 ly155 (by decide) (by decide) rfl hM.1 ?_
          refine r_bipush (d := mX6_gives) (pc := 108) (n := 12) dX6_gives_108 ?_
          refine r_iload_n (d := mX6_gives) (pc := 110) (i := 2) (v := one) dX6_gives_110 rfl rfl ?_
          refine r_iadd (d := mX6_gives) (pc := 111) dX6_gives_111 ?_
          refine r_ialds (d := mX6_gives) (pc := 112) (a := 156) (x := gvF (I 156) n m nc name one other) dX6_gives_112 ly156 (by omega) (by omega) (by show (gvD (I 156) n m nc name one other) (12 + one) = _; rw [gvD_lo _ _ _ _ _ _ _ (by omega)]; rfl) ?_
          refine r_istore (d := mX6_gives) (pc := 113) (i := 5) (lv' := [(0, .inr (some 155)), (1, .inl name), (2, .inl one), (3, .inl other), (4, .inl (n : Int)), (5, .inl (gvF (I 156) n m nc name one other))]) dX6_gives_113 (by decide) rfl rfl ?_
          refine r_aload_n (d := mX6_gives) (pc := 115) (i := 0) (v := 155) dX6_gives_115 rfl rfl ?_
          refine r_getRs (d := mX6_gives) (pc := 116) (a := 155) (kd := 6) (j := 0) (x := 156) dX6_gives_116 flRX6_7 ly155 (by decide) (by decide) rfl hM.1 ?_
          refine r_bipush (d := mX6_gives) (pc := 119) (n := 12) dX6_gives_119 ?_
          refine r_iload_n (d := mX6_gives) (pc := 121) (i := 3) (v := other) dX6_gives_121 rfl rfl ?_
          refine r_iadd (d := mX6_gives) (pc := 122) dX6_gives_122 ?_
          refine r_ialds (d := mX6_gives) (pc := 123) (a := 156) (x := gvG (I 156) n m nc name one other) dX6_gives_123 ly156 (by omega) (by omega) (by show (gvD (I 156) n m nc name one other) (12 + other) = _; rw [gvD_lo _ _ _ _ _ _ _ (by omega)]; rfl) ?_
          refine r_istore (d := mX6_gives) (pc := 124) (i := 6) (lv' := [(0, .inr (some 155)), (1, .inl name), (2, .inl one), (3, .inl other), (4, .inl (n : Int)), (5, .inl (gvF (I 156) n m nc name one other)), (6, .inl (gvG (I 156) n m nc name one other))]) dX6_gives_124 (by decide) rfl rfl ?_
          refine r_aload_n (d := mX6_gives) (pc := 126) (i := 0) (v := 155) dX6_gives_126 rfl rfl ?_
          refine r_iload_n (d := mX6_gives) (pc := 127) (i := 2) (v := one) dX6_gives_127 rfl rfl ?_
          refine r_iload_n (d := mX6_gives) (pc := 128) (i := 3) (v := other) dX6_gives_128 rfl rfl ?_
          refine r_cV2 (d := mX6_gives) (pc := 129) (dj := mX6_chairFor) (a := 155) (kd := 6) dX6_gives_129 mlRX6_74 inX6_chairFor selX6_chairFor rfl ly155 (by decide) okX6_chairFor (by decide) rfl (Nat.le_of_ble_eq_true rfl) (by decide) (by decide) (Fn_X6_chairFor (k + 2) (arS I 156 (gvD (I 156) n m nc name one other)) P hM n ((show (gvD (I 156) n m nc name one other) 3 = I 156 3 by rw [gvD_lo _ _ _ _ _ _ _ (by omega), gvC_lo _ _ _ _ _ _ _ (by omega) (by omega) (by omega) (by omega) (by omega), gvA_lo _ _ _ _ _ _ _ (by omega) (by omega) (by omega)]).trans hn) hn6 m ((show (gvD (I 156) n m nc name one other) 2 = I 156 2 by rw [gvD_lo _ _ _ _ _ _ _ (by omega), gvC_lo _ _ _ _ _ _ _ (by omega) (by omega) (by omega) (by omega) (by omega), gvA_lo _ _ _ _ _ _ _ (by omega) (by omega) (by omega)]).trans hm) hm3 nc ((show (gvD (I 156) n m nc name one other) 0 = I 156 0 by rw [gvD_lo _ _ _ _ _ _ _ (by omega), gvC_lo _ _ _ _ _ _ _ (by omega) (by omega) (by omega) (by omega) (by omega), gvA_lo _ _ _ _ _ _ _ (by omega) (by omega) (by omega)]).trans hc) hc7 (by have := gv_56 (I 156) n m nc name one other (by omega) (by omega) (by omega); have e9 : gvD (I 156) n m nc name one other 5 = gvC (I 156) n m nc name one other 5 := gvD_lo _ _ _ _ _ _ _ (by omega); show 0 ≤ (gvD (I 156) n m nc name one other) 5 ∧ (gvD (I 156) n m nc name one other) 5 ≤ 2000000000; omega) one other (by omega) (by omega) (by omega) (by omega) (by omega)) ?_
          refine wpE (lv' := [(0, .inr (some 155)), (1, .inl name), (2, .inl one), (3, .inl other), (4, .inl (n : Int)), (5, .inl (gvF (I 156) n m nc name one other)), (6, .inl (gvG (I 156) n m nc name one other))]) (st' := [.inl (cfV (gvD (I 156) n m nc name one other) n m nc one other)]) (M' := (lay0, arS I 156 (cfS (gvD (I 156) n m nc name one other) n m nc one other), P)) rfl rfl (memE (arS_arS _ _ _ _)) ?_
          change WP _ _ _ _ _ _ _ [.inl (gvK (I 156) n m nc name one other)] (lay0, arS I 156 (gvE (I 156) n m nc name one other), P)
          refine r_istore (d := mX6_gives) (pc := 132) (i := 7) (lv' := [(0, .inr (some 155)), (1, .inl name), (2, .inl one), (3, .inl other), (4, .inl (n : Int)), (5, .inl (gvF (I 156) n m nc name one other)), (6, .inl (gvG (I 156) n m nc name one other)), (7, .inl (gvK (I 156) n m nc name one other))]) dX6_gives_132 (by decide) rfl rfl ?_
          have hcv := cfV_rng (gvD (I 156) n m nc name one other) n m nc one other
          change gvK (I 156) n m nc name one other = -4 ∨ (0 ≤ gvK (I 156) n m nc name one other ∧ gvK (I 156) n m nc name one other < nc) at hcv
          refine r_iload (d := mX6_gives) (pc := 134) (i := 7) (v := gvK (I 156) n m nc name one other) dX6_gives_134 rfl ?_
          refine r_if_ge (d := mX6_gives) (pc := 136) (tgt := 142) dX6_gives_136 (by decide) (fun h136 => ?_) (fun h136 => ?_)
          · refine r_aload_n (d := mX6_gives) (pc := 142) (i := 0) (v := 155) dX6_gives_142 rfl rfl ?_
            refine r_getRs (d := mX6_gives) (pc := 143) (a := 155) (kd := 6) (j := 0) (x := 156) dX6_gives_143 flRX6_7 ly155 (by decide) (by decide) rfl hM.1 ?_
            refine r_iload (d := mX6_gives) (pc := 146) (i := 5) (v := gvF (I 156) n m nc name one other) dX6_gives_146 rfl ?_
            refine r_iconst (d := mX6_gives) (pc := 148) (n := 4) dX6_gives_148 ?_
            refine r_cS2 (d := mX6_gives) (pc := 149) (dj := mX6_at) dX6_gives_149 mlRX6_65 staX6_at okX6_at (by decide) rfl (Nat.le_of_ble_eq_true rfl) (by decide) (by decide) (Fn_X6_at (k + 5) (arS I 156 (gvE (I 156) n m nc name one other)) P (gvF (I 156) n m nc name one other) 4 (by omega) (by omega) (by omega) (by omega)) ?_
            refine r_aload_n (d := mX6_gives) (pc := 152) (i := 0) (v := 155) dX6_gives_152 rfl rfl ?_
            refine r_getRs (d := mX6_gives) (pc := 153) (a := 155) (kd := 6) (j := 0) (x := 156) dX6_gives_153 flRX6_7 ly155 (by decide) (by decide) rfl hM.1 ?_
            refine r_bipush (d := mX6_gives) (pc := 156) (n := 7) dX6_gives_156 ?_
            refine r_ialds (d := mX6_gives) (pc := 158) (a := 156) (x := ((I 156 7) + 1)) dX6_gives_158 ly156 (by decide) (by decide) (by show (gvE (I 156) n m nc name one other) 7 = _; rw [gvE_lo _ _ _ _ _ _ _ (by omega) (by omega), gvC_lo _ _ _ _ _ _ _ (by omega) (by omega) (by omega) (by omega) (by omega), gvA_7 _ _ _ _ _ _ _ (by omega)]) ?_
            refine r_iasts (d := mX6_gives) (pc := 159) (a := 156) (lay0, arS I 156 (fset (gvE (I 156) n m nc name one other) (28 + 5 * (gvF (I 156) n m nc name one other) + 4) ((I 156 7) + 1)), P) dX6_gives_159 ly156 (by omega) (by omega) (memE (arS_up _ _ _ _ _)) ?_
            refine r_aload_n (d := mX6_gives) (pc := 160) (i := 0) (v := 155) dX6_gives_160 rfl rfl ?_
            refine r_getRs (d := mX6_gives) (pc := 161) (a := 155) (kd := 6) (j := 0) (x := 156) dX6_gives_161 flRX6_7 ly155 (by decide) (by decide) rfl hM.1 ?_
            refine r_iload (d := mX6_gives) (pc := 164) (i := 6) (v := gvG (I 156) n m nc name one other) dX6_gives_164 rfl ?_
            refine r_iconst (d := mX6_gives) (pc := 166) (n := 4) dX6_gives_166 ?_
            refine r_cS2 (d := mX6_gives) (pc := 167) (dj := mX6_at) dX6_gives_167 mlRX6_65 staX6_at okX6_at (by decide) rfl (Nat.le_of_ble_eq_true rfl) (by decide) (by decide) (Fn_X6_at (k + 5) (arS I 156 (fset (gvE (I 156) n m nc name one other) (28 + 5 * (gvF (I 156) n m nc name one other) + 4) ((I 156 7) + 1))) P (gvG (I 156) n m nc name one other) 4 (by omega) (by omega) (by omega) (by omega)) ?_
            refine r_aload_n (d := mX6_gives) (pc := 170) (i := 0) (v := 155) dX6_gives_170 rfl rfl ?_
            refine r_getRs (d := mX6_gives) (pc := 171) (a := 155) (kd := 6) (j := 0) (x := 156) dX6_gives_171 flRX6_7 ly155 (by decide) (by decide) rfl hM.1 ?_
            refine r_bipush (d := mX6_gives) (pc := 174) (n := 7) dX6_gives_174 ?_
            refine r_ialds (d := mX6_gives) (pc := 176) (a := 156) (x := ((I 156 7) + 1)) dX6_gives_176 ly156 (by decide) (by decide) (by show (fset (gvE (I 156) n m nc name one other) (28 + 5 * (gvF (I 156) n m nc name one other) + 4) ((I 156 7) + 1)) 7 = _; rw [fset_ne _ _ (by omega), gvE_lo _ _ _ _ _ _ _ (by omega) (by omega), gvC_lo _ _ _ _ _ _ _ (by omega) (by omega) (by omega) (by omega) (by omega), gvA_7 _ _ _ _ _ _ _ (by omega)]) ?_
            refine r_iasts (d := mX6_gives) (pc := 177) (a := 156) (lay0, arS I 156 (fset (fset (gvE (I 156) n m nc name one other) (28 + 5 * (gvF (I 156) n m nc name one other) + 4) ((I 156 7) + 1)) (28 + 5 * (gvG (I 156) n m nc name one other) + 4) ((I 156 7) + 1)), P) dX6_gives_177 ly156 (by omega) (by omega) (memE (arS_up _ _ _ _ _)) ?_
            refine r_aload_n (d := mX6_gives) (pc := 178) (i := 0) (v := 155) dX6_gives_178 rfl rfl ?_
            refine r_getRs (d := mX6_gives) (pc := 179) (a := 155) (kd := 6) (j := 0) (x := 156) dX6_gives_179 flRX6_7 ly155 (by decide) (by decide) rfl hM.1 ?_
            refine r_bipush (d := mX6_gives) (pc := 182) (n := 12) dX6_gives_182 ?_
            refine r_iload_n (d := mX6_gives) (pc := 184) (i := 1) (v := name) dX6_gives_184 rfl rfl ?_
            refine r_iadd (d := mX6_gives) (pc := 185) dX6_gives_185 ?_
            refine r_iload (d := mX6_gives) (pc := 186) (i := 7) (v := gvK (I 156) n m nc name one other) dX6_gives_186 rfl ?_
            refine r_iasts (d := mX6_gives) (pc := 188) (a := 156) (lay0, arS I 156 (fset (fset (fset (gvE (I 156) n m nc name one other) (28 + 5 * (gvF (I 156) n m nc name one other) + 4) ((I 156 7) + 1)) (28 + 5 * (gvG (I 156) n m nc name one other) + 4) ((I 156 7) + 1)) (12 + name) (gvK (I 156) n m nc name one other)), P) dX6_gives_188 ly156 (by omega) (by omega) (memE (arS_up _ _ _ _ _)) ?_
            refine r_aload_n (d := mX6_gives) (pc := 189) (i := 0) (v := 155) dX6_gives_189 rfl rfl ?_
            refine r_getRs (d := mX6_gives) (pc := 190) (a := 155) (kd := 6) (j := 0) (x := 156) dX6_gives_190 flRX6_7 ly155 (by decide) (by decide) rfl hM.1 ?_
            refine r_iload (d := mX6_gives) (pc := 193) (i := 7) (v := gvK (I 156) n m nc name one other) dX6_gives_193 rfl ?_
            refine r_iconst (d := mX6_gives) (pc := 195) (n := 0) dX6_gives_195 ?_
            refine r_cS2 (d := mX6_gives) (pc := 196) (dj := mX6_at) dX6_gives_196 mlRX6_65 staX6_at okX6_at (by decide) rfl (Nat.le_of_ble_eq_true rfl) (by decide) (by decide) (Fn_X6_at (k + 5) (arS I 156 (fset (fset (fset (gvE (I 156) n m nc name one other) (28 + 5 * (gvF (I 156) n m nc name one other) + 4) ((I 156 7) + 1)) (28 + 5 * (gvG (I 156) n m nc name one other) + 4) ((I 156 7) + 1)) (12 + name) (gvK (I 156) n m nc name one other))) P (gvK (I 156) n m nc name one other) 0 (by omega) (by omega) (by omega) (by omega)) ?_
            refine r_iconst (d := mX6_gives) (pc := 199) (n := 1) dX6_gives_199 ?_
            refine r_iasts (d := mX6_gives) (pc := 200) (a := 156) (lay0, arS I 156 (fset (fset (fset (fset (gvE (I 156) n m nc name one other) (28 + 5 * (gvF (I 156) n m nc name one other) + 4) ((I 156 7) + 1)) (28 + 5 * (gvG (I 156) n m nc name one other) + 4) ((I 156 7) + 1)) (12 + name) (gvK (I 156) n m nc name one other)) (28 + 5 * (gvK (I 156) n m nc name one other) + 0) 1), P) dX6_gives_200 ly156 (by omega) (by omega) (memE (arS_up _ _ _ _ _)) ?_
            refine r_aload_n (d := mX6_gives) (pc := 201) (i := 0) (v := 155) dX6_gives_201 rfl rfl ?_
            refine r_getRs (d := mX6_gives) (pc := 202) (a := 155) (kd := 6) (j := 0) (x := 156) dX6_gives_202 flRX6_7 ly155 (by decide) (by decide) rfl hM.1 ?_
            refine r_iload (d := mX6_gives) (pc := 205) (i := 7) (v := gvK (I 156) n m nc name one other) dX6_gives_205 rfl ?_
            refine r_iconst (d := mX6_gives) (pc := 207) (n := 1) dX6_gives_207 ?_
            refine r_cS2 (d := mX6_gives) (pc := 208) (dj := mX6_at) dX6_gives_208 mlRX6_65 staX6_at okX6_at (by decide) rfl (Nat.le_of_ble_eq_true rfl) (by decide) (by decide) (Fn_X6_at (k + 5) (arS I 156 (fset (fset (fset (fset (gvE (I 156) n m nc name one other) (28 + 5 * (gvF (I 156) n m nc name one other) + 4) ((I 156 7) + 1)) (28 + 5 * (gvG (I 156) n m nc name one other) + 4) ((I 156 7) + 1)) (12 + name) (gvK (I 156) n m nc name one other)) (28 + 5 * (gvK (I 156) n m nc name one other) + 0) 1)) P (gvK (I 156) n m nc name one other) 1 (by omega) (by omega) (by omega) (by omega)) ?_
            refine r_iconst (d := mX6_gives) (pc := 211) (n := 0) dX6_gives_211 ?_
            refine r_iasts (d := mX6_gives) (pc := 212) (a := 156) (lay0, arS I 156 (fset (fset (fset (fset (fset (gvE (I 156) n m nc name one other) (28 + 5 * (gvF (I 156) n m nc name one other) + 4) ((I 156 7) + 1)) (28 + 5 * (gvG (I 156) n m nc name one other) + 4) ((I 156 7) + 1)) (12 + name) (gvK (I 156) n m nc name one other)) (28 + 5 * (gvK (I 156) n m nc name one other) + 0) 1) (28 + 5 * (gvK (I 156) n m nc name one other) + 1) 0), P) dX6_gives_212 ly156 (by omega) (by omega) (memE (arS_up _ _ _ _ _)) ?_
            refine r_aload_n (d := mX6_gives) (pc := 213) (i := 0) (v := 155) dX6_gives_213 rfl rfl ?_
            refine r_getRs (d := mX6_gives) (pc := 214) (a := 155) (kd := 6) (j := 0) (x := 156) dX6_gives_214 flRX6_7 ly155 (by decide) (by decide) rfl hM.1 ?_
            refine r_iload (d := mX6_gives) (pc := 217) (i := 7) (v := gvK (I 156) n m nc name one other) dX6_gives_217 rfl ?_
            refine r_iconst (d := mX6_gives) (pc := 219) (n := 2) dX6_gives_219 ?_
            refine r_cS2 (d := mX6_gives) (pc := 220) (dj := mX6_at) dX6_gives_220 mlRX6_65 staX6_at okX6_at (by decide) rfl (Nat.le_of_ble_eq_true rfl) (by decide) (by decide) (Fn_X6_at (k + 5) (arS I 156 (fset (fset (fset (fset (fset (gvE (I 156) n m nc name one other) (28 + 5 * (gvF (I 156) n m nc name one other) + 4) ((I 156 7) + 1)) (28 + 5 * (gvG (I 156) n m nc name one other) + 4) ((I 156 7) + 1)) (12 + name) (gvK (I 156) n m nc name one other)) (28 + 5 * (gvK (I 156) n m nc name one other) + 0) 1) (28 + 5 * (gvK (I 156) n m nc name one other) + 1) 0)) P (gvK (I 156) n m nc name one other) 2 (by omega) (by omega) (by omega) (by omega)) ?_
            refine r_iconst (d := mX6_gives) (pc := 223) (n := 0) dX6_gives_223 ?_
            refine r_iasts (d := mX6_gives) (pc := 224) (a := 156) (lay0, arS I 156 (fset (fset (fset (fset (fset (fset (gvE (I 156) n m nc name one other) (28 + 5 * (gvF (I 156) n m nc name one other) + 4) ((I 156 7) + 1)) (28 + 5 * (gvG (I 156) n m nc name one other) + 4) ((I 156 7) + 1)) (12 + name) (gvK (I 156) n m nc name one other)) (28 + 5 * (gvK (I 156) n m nc name one other) + 0) 1) (28 + 5 * (gvK (I 156) n m nc name one other) + 1) 0) (28 + 5 * (gvK (I 156) n m nc name one other) + 2) 0), P) dX6_gives_224 ly156 (by omega) (by omega) (memE (arS_up _ _ _ _ _)) ?_
            refine r_aload_n (d := mX6_gives) (pc := 225) (i := 0) (v := 155) dX6_gives_225 rfl rfl ?_
            refine r_getRs (d := mX6_gives) (pc := 226) (a := 155) (kd := 6) (j := 0) (x := 156) dX6_gives_226 flRX6_7 ly155 (by decide) (by decide) rfl hM.1 ?_
            refine r_iload (d := mX6_gives) (pc := 229) (i := 7) (v := gvK (I 156) n m nc name one other) dX6_gives_229 rfl ?_
            refine r_iconst (d := mX6_gives) (pc := 231) (n := 3) dX6_gives_231 ?_
            refine r_cS2 (d := mX6_gives) (pc := 232) (dj := mX6_at) dX6_gives_232 mlRX6_65 staX6_at okX6_at (by decide) rfl (Nat.le_of_ble_eq_true rfl) (by decide) (by decide) (Fn_X6_at (k + 5) (arS I 156 (fset (fset (fset (fset (fset (fset (gvE (I 156) n m nc name one other) (28 + 5 * (gvF (I 156) n m nc name one other) + 4) ((I 156 7) + 1)) (28 + 5 * (gvG (I 156) n m nc name one other) + 4) ((I 156 7) + 1)) (12 + name) (gvK (I 156) n m nc name one other)) (28 + 5 * (gvK (I 156) n m nc name one other) + 0) 1) (28 + 5 * (gvK (I 156) n m nc name one other) + 1) 0) (28 + 5 * (gvK (I 156) n m nc name one other) + 2) 0)) P (gvK (I 156) n m nc name one other) 3 (by omega) (by omega) (by omega) (by omega)) ?_
            refine r_iconst (d := mX6_gives) (pc := 235) (n := (-1)) dX6_gives_235 ?_
            refine r_iasts (d := mX6_gives) (pc := 236) (a := 156) (lay0, arS I 156 (fset (fset (fset (fset (fset (fset (fset (gvE (I 156) n m nc name one other) (28 + 5 * (gvF (I 156) n m nc name one other) + 4) ((I 156 7) + 1)) (28 + 5 * (gvG (I 156) n m nc name one other) + 4) ((I 156 7) + 1)) (12 + name) (gvK (I 156) n m nc name one other)) (28 + 5 * (gvK (I 156) n m nc name one other) + 0) 1) (28 + 5 * (gvK (I 156) n m nc name one other) + 1) 0) (28 + 5 * (gvK (I 156) n m nc name one other) + 2) 0) (28 + 5 * (gvK (I 156) n m nc name one other) + 3) (-1)), P) dX6_gives_236 ly156 (by omega) (by omega) (memE (arS_up _ _ _ _ _)) ?_
            refine r_aload_n (d := mX6_gives) (pc := 237) (i := 0) (v := 155) dX6_gives_237 rfl rfl ?_
            refine r_getRs (d := mX6_gives) (pc := 238) (a := 155) (kd := 6) (j := 0) (x := 156) dX6_gives_238 flRX6_7 ly155 (by decide) (by decide) rfl hM.1 ?_
            refine r_iload (d := mX6_gives) (pc := 241) (i := 7) (v := gvK (I 156) n m nc name one other) dX6_gives_241 rfl ?_
            refine r_iconst (d := mX6_gives) (pc := 243) (n := 4) dX6_gives_243 ?_
            refine r_cS2 (d := mX6_gives) (pc := 244) (dj := mX6_at) dX6_gives_244 mlRX6_65 staX6_at okX6_at (by decide) rfl (Nat.le_of_ble_eq_true rfl) (by decide) (by decide) (Fn_X6_at (k + 5) (arS I 156 (fset (fset (fset (fset (fset (fset (fset (gvE (I 156) n m nc name one other) (28 + 5 * (gvF (I 156) n m nc name one other) + 4) ((I 156 7) + 1)) (28 + 5 * (gvG (I 156) n m nc name one other) + 4) ((I 156 7) + 1)) (12 + name) (gvK (I 156) n m nc name one other)) (28 + 5 * (gvK (I 156) n m nc name one other) + 0) 1) (28 + 5 * (gvK (I 156) n m nc name one other) + 1) 0) (28 + 5 * (gvK (I 156) n m nc name one other) + 2) 0) (28 + 5 * (gvK (I 156) n m nc name one other) + 3) (-1))) P (gvK (I 156) n m nc name one other) 4 (by omega) (by omega) (by omega) (by omega)) ?_
            refine r_aload_n (d := mX6_gives) (pc := 247) (i := 0) (v := 155) dX6_gives_247 rfl rfl ?_
            refine r_getRs (d := mX6_gives) (pc := 248) (a := 155) (kd := 6) (j := 0) (x := 156) dX6_gives_248 flRX6_7 ly155 (by decide) (by decide) rfl hM.1 ?_
            refine r_bipush (d := mX6_gives) (pc := 251) (n := 7) dX6_gives_251 ?_
            refine r_ialds (d := mX6_gives) (pc := 253) (a := 156) (x := ((I 156 7) + 1)) dX6_gives_253 ly156 (by decide) (by decide) (by show (fset (fset (fset (fset (fset (fset (fset (gvE (I 156) n m nc name one other) (28 + 5 * (gvF (I 156) n m nc name one other) + 4) ((I 156 7) + 1)) (28 + 5 * (gvG (I 156) n m nc name one other) + 4) ((I 156 7) + 1)) (12 + name) (gvK (I 156) n m nc name one other)) (28 + 5 * (gvK (I 156) n m nc name one other) + 0) 1) (28 + 5 * (gvK (I 156) n m nc name one other) + 1) 0) (28 + 5 * (gvK (I 156) n m nc name one other) + 2) 0) (28 + 5 * (gvK (I 156) n m nc name one other) + 3) (-1)) 7 = _; rw [fset_ne _ _ (by omega), fset_ne _ _ (by omega), fset_ne _ _ (by omega), fset_ne _ _ (by omega), fset_ne _ _ (by omega), fset_ne _ _ (by omega), fset_ne _ _ (by omega), gvE_lo _ _ _ _ _ _ _ (by omega) (by omega), gvC_lo _ _ _ _ _ _ _ (by omega) (by omega) (by omega) (by omega) (by omega), gvA_7 _ _ _ _ _ _ _ (by omega)]) ?_
            refine r_iasts (d := mX6_gives) (pc := 254) (a := 156) (lay0, arS I 156 (fset (fset (fset (fset (fset (fset (fset (fset (gvE (I 156) n m nc name one other) (28 + 5 * (gvF (I 156) n m nc name one other) + 4) ((I 156 7) + 1)) (28 + 5 * (gvG (I 156) n m nc name one other) + 4) ((I 156 7) + 1)) (12 + name) (gvK (I 156) n m nc name one other)) (28 + 5 * (gvK (I 156) n m nc name one other) + 0) 1) (28 + 5 * (gvK (I 156) n m nc name one other) + 1) 0) (28 + 5 * (gvK (I 156) n m nc name one other) + 2) 0) (28 + 5 * (gvK (I 156) n m nc name one other) + 3) (-1)) (28 + 5 * (gvK (I 156) n m nc name one other) + 4) ((I 156 7) + 1)), P) dX6_gives_254 ly156 (by omega) (by omega) (memE (arS_up _ _ _ _ _)) ?_
            refine r_iload (d := mX6_gives) (pc := 255) (i := 7) (v := gvK (I 156) n m nc name one other) dX6_gives_255 rfl ?_
            exact r_iret (d := mX6_gives) (pc := 257) dX6_gives_257 rfl (rtI (by rw [gvV, if_pos ⟨h33, h43⟩, if_neg (by omega)]) (by refine memE ?_; rw [gvS, if_pos h33, if_pos h43, if_neg (by omega), gvX])) (by decide) (by decide)
          · refine r_bipush (d := mX6_gives) (pc := 139) (n := (-4)) dX6_gives_139 ?_
            exact r_iret (d := mX6_gives) (pc := 141) dX6_gives_141 rfl (rtI (by rw [gvV, if_pos ⟨h33, h43⟩, if_pos (by omega)]) (by refine memE ?_; rw [gvS, if_pos h33, if_pos h43, if_pos (by omega)])) (by decide) (by decide)
        refine r_iload (d := mX6_gives) (pc := 57) (i := 4) (v := (n : Int)) dX6_gives_57 rfl ?_
        refine r_bipush (d := mX6_gives) (pc := 59) (n := 6) dX6_gives_59 ?_
        refine r_icmp_ge (d := mX6_gives) (pc := 61) (tgt := 104) dX6_gives_61 (by decide) (fun h61 => ?_) (fun h61 => ?_)
        · exact wpE (by rfl) (by rfl) (by refine memE ?_; rw [gvD, if_neg (by omega)]) T104
        · refine r_aload_n (d := mX6_gives) (pc := 64) (i := 0) (v := 155) dX6_gives_64 rfl rfl ?_
          refine r_getRs (d := mX6_gives) (pc := 65) (a := 155) (kd := 6) (j := 0) (x := 156) dX6_gives_65 flRX6_7 ly155 (by decide) (by decide) rfl hM.1 ?_
          refine r_iload (d := mX6_gives) (pc := 68) (i := 4) (v := (n : Int)) dX6_gives_68 rfl ?_
          refine r_iconst (d := mX6_gives) (pc := 70) (n := 2) dX6_gives_70 ?_
          refine r_cS2 (d := mX6_gives) (pc := 71) (dj := mX6_ofOrder) dX6_gives_71 mlRX6_47 staX6_ofOrder okX6_ofOrder (by decide) rfl (Nat.le_of_ble_eq_true rfl) (by decide) (by decide) (Fn_X6_ofOrder (k + 5) (arS I 156 (gvC (I 156) n m nc name one other)) P (n : Int) 2 (by omega) (by omega) (by omega) (by omega)) ?_
          refine r_aload_n (d := mX6_gives) (pc := 74) (i := 0) (v := 155) dX6_gives_74 rfl rfl ?_
          refine r_getRs (d := mX6_gives) (pc := 75) (a := 155) (kd := 6) (j := 0) (x := 156) dX6_gives_75 flRX6_7 ly155 (by decide) (by decide) rfl hM.1 ?_
          refine r_bipush (d := mX6_gives) (pc := 78) (n := 12) dX6_gives_78 ?_
          refine r_iload_n (d := mX6_gives) (pc := 80) (i := 2) (v := one) dX6_gives_80 rfl rfl ?_
          refine r_iadd (d := mX6_gives) (pc := 81) dX6_gives_81 ?_
          refine r_ialds (d := mX6_gives) (pc := 82) (a := 156) (x := gvF (I 156) n m nc name one other) dX6_gives_82 ly156 (by omega) (by omega) (by show (gvC (I 156) n m nc name one other) (12 + one) = _; rw [show gvC (I 156) n m nc name one other (12 + one) = _ from rfl]; rfl) ?_
          refine r_iasts (d := mX6_gives) (pc := 83) (a := 156) (lay0, arS I 156 (fset (gvC (I 156) n m nc name one other) (111 + 7 * (n : Int) + 2) (gvF (I 156) n m nc name one other)), P) dX6_gives_83 ly156 (by omega) (by omega) (memE (arS_up _ _ _ _ _)) ?_
          refine r_aload_n (d := mX6_gives) (pc := 84) (i := 0) (v := 155) dX6_gives_84 rfl rfl ?_
          refine r_getRs (d := mX6_gives) (pc := 85) (a := 155) (kd := 6) (j := 0) (x := 156) dX6_gives_85 flRX6_7 ly155 (by decide) (by decide) rfl hM.1 ?_
          refine r_iload (d := mX6_gives) (pc := 88) (i := 4) (v := (n : Int)) dX6_gives_88 rfl ?_
          refine r_iconst (d := mX6_gives) (pc := 90) (n := 3) dX6_gives_90 ?_
          refine r_cS2 (d := mX6_gives) (pc := 91) (dj := mX6_ofOrder) dX6_gives_91 mlRX6_47 staX6_ofOrder okX6_ofOrder (by decide) rfl (Nat.le_of_ble_eq_true rfl) (by decide) (by decide) (Fn_X6_ofOrder (k + 5) (arS I 156 (fset (gvC (I 156) n m nc name one other) (111 + 7 * (n : Int) + 2) (gvF (I 156) n m nc name one other))) P (n : Int) 3 (by omega) (by omega) (by omega) (by omega)) ?_
          refine r_aload_n (d := mX6_gives) (pc := 94) (i := 0) (v := 155) dX6_gives_94 rfl rfl ?_
          refine r_getRs (d := mX6_gives) (pc := 95) (a := 155) (kd := 6) (j := 0) (x := 156) dX6_gives_95 flRX6_7 ly155 (by decide) (by decide) rfl hM.1 ?_
          refine r_bipush (d := mX6_gives) (pc := 98) (n := 12) dX6_gives_98 ?_
          refine r_iload_n (d := mX6_gives) (pc := 100) (i := 3) (v := other) dX6_gives_100 rfl rfl ?_
          refine r_iadd (d := mX6_gives) (pc := 101) dX6_gives_101 ?_
          refine r_ialds (d := mX6_gives) (pc := 102) (a := 156) (x := gvG (I 156) n m nc name one other) dX6_gives_102 ly156 (by omega) (by omega) (by show (fset (gvC (I 156) n m nc name one other) (111 + 7 * (n : Int) + 2) (gvF (I 156) n m nc name one other)) (12 + other) = _; rw [fset_ne _ _ (by omega), show gvC (I 156) n m nc name one other (12 + other) = _ from rfl]; rfl) ?_
          refine r_iasts (d := mX6_gives) (pc := 103) (a := 156) (lay0, arS I 156 (fset (fset (gvC (I 156) n m nc name one other) (111 + 7 * (n : Int) + 2) (gvF (I 156) n m nc name one other)) (111 + 7 * (n : Int) + 3) (gvG (I 156) n m nc name one other)), P) dX6_gives_103 ly156 (by omega) (by omega) (memE (arS_up _ _ _ _ _)) ?_
          exact wpE (by rfl) (by rfl) (by refine memE ?_; rw [gvD, if_pos (by omega)]) T104
      · refine r_bipush (d := mX6_gives) (pc := 46) (n := (-4)) dX6_gives_46 ?_
        exact r_iret (d := mX6_gives) (pc := 48) dX6_gives_48 rfl (rtI (by rw [gvV, if_neg (fun q => h43 q.2)]) (by refine memE ?_; rw [gvS, if_pos h33, if_neg h43])) (by decide) (by decide)
  refine r_iload_n (d := mX6_gives) (pc := 11) (i := 1) (v := name) dX6_gives_11 rfl rfl ?_
  refine r_iload_n (d := mX6_gives) (pc := 12) (i := 2) (v := one) dX6_gives_12 rfl rfl ?_
  refine r_icmp_eq (d := mX6_gives) (pc := 13) (tgt := 26) dX6_gives_13 (by decide) (fun h13 => ?_) (fun h13 => ?_)
  · exact wpE (by rfl) (by rfl) (by refine memE ?_; rw [gvA, if_pos (by omega)]) T26
  · refine r_iload_n (d := mX6_gives) (pc := 16) (i := 1) (v := name) dX6_gives_16 rfl rfl ?_
    refine r_iload_n (d := mX6_gives) (pc := 17) (i := 3) (v := other) dX6_gives_17 rfl rfl ?_
    refine r_icmp_eq (d := mX6_gives) (pc := 18) (tgt := 26) dX6_gives_18 (by decide) (fun h18 => ?_) (fun h18 => ?_)
    · exact wpE (by rfl) (by rfl) (by refine memE ?_; rw [gvA, if_pos (by omega)]) T26
    · refine r_aload_n (d := mX6_gives) (pc := 21) (i := 0) (v := 155) dX6_gives_21 rfl rfl ?_
      refine r_iload_n (d := mX6_gives) (pc := 22) (i := 1) (v := name) dX6_gives_22 rfl rfl ?_
      refine r_cV1 (d := mX6_gives) (pc := 23) (dj := mX6_givesUp) (a := 155) (kd := 6) dX6_gives_23 mlRX6_92 inX6_givesUp selX6_givesUp rfl ly155 (by decide) okX6_givesUp (by decide) rfl (Nat.le_of_ble_eq_true rfl) (by decide) (by decide) (Fn_X6_givesUp (k + 2) (arS I 156 (fset (I 156) 7 ((I 156 7) + 1))) P hM n ((show (fset (I 156) 7 ((I 156 7) + 1)) 3 = I 156 3 by rw [fset_ne _ _ (by omega)]).trans hn) hn6 m ((show (fset (I 156) 7 ((I 156 7) + 1)) 2 = I 156 2 by rw [fset_ne _ _ (by omega)]).trans hm) hm3 nc ((show (fset (I 156) 7 ((I 156 7) + 1)) 0 = I 156 0 by rw [fset_ne _ _ (by omega)]).trans hc) hc7 name (by omega) (by omega)) ?_
      refine wpE (lv' := [(0, .inr (some 155)), (1, .inl name), (2, .inl one), (3, .inl other)]) (st' := []) (M' := (lay0, arS I 156 (guM (fset (I 156) 7 ((I 156 7) + 1)) n m nc name), P)) rfl rfl (memE (arS_arS _ _ _ _)) ?_
      exact wpE (by rfl) (by rfl) (by refine memE ?_; rw [gvA, if_neg (by omega)]) T26
